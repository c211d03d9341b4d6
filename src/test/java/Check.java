/** Counts answers that are not as due, and feeds texts. */
final class Check {
    interface Call {
        long run();
    }

    private int wrong = 0;
    private int asked = 0;

    void due(String what, long want, long got) {
        asked++;
        if (want != got) {
            wrong++;
            System.out.println(what + " answered " + got + ", due is " + want);
        }
    }

    int wrong() {
        return wrong;
    }

    void noSuch(String what, Call call) {
        due(what + " (1 NoSuchElementException, 2 IllegalArgumentException)", 1, thrownBy(call));
    }

    void wrongArgument(String what, Call call) {
        due(what + " (1 NoSuchElementException, 2 IllegalArgumentException)", 2, thrownBy(call));
    }

    static int thrownBy(Call call) {
        try {
            call.run();
            return 0;
        } catch (java.util.NoSuchElementException e) {
            return 1;
        } catch (IllegalArgumentException e) {
            return 2;
        }
    }

    /** Feeds the text, filled up with blanks' opposite, zeros, which no reading may reach. */
    static void feed(RoadHolidays x, String text) {
        for (int at = 0; at < text.length(); at += 20) {
            int[] five = new int[5];
            for (int i = 0; i < 20; i++) {
                int sign = at + i < text.length() ? text.charAt(at + i) & 255 : 0;
                five[i / 4] = five[i / 4] << 8 | sign;
            }
            x.feed(five[0], five[1], five[2], five[3], five[4]);
        }
    }

    static int land(RoadHolidays x, String text) {
        feed(x, text);
        return x.land(text.length());
    }

    static int law(RoadHolidays x, String text) {
        feed(x, text);
        return x.law(text.length());
    }

    static int work(RoadHolidays x, String text) {
        feed(x, text);
        return x.work(text.length());
    }

    static int book(RoadHolidays x, String text) {
        feed(x, text);
        return x.book(text.length());
    }

    void end(String name) {
        System.out.println(name + ": " + asked + " answers, " + wrong + " wrong");
        if (wrong != 0 || asked == 0) {
            System.exit(1);
        }
    }
}
