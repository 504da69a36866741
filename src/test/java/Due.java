/** What the tests have in common: they tell each answer that is not the one that is due. */
final class Due {
    private static int wrong = 0;
    private static int asked = 0;

    private Due() {
    }

    static void is(String call, long got, long want) {
        asked++;
        if (got != want) {
            wrong++;
            System.out.println(call + " answered " + got + ", due is " + want);
        }
    }

    static void isTrue(String what, boolean holds) {
        asked++;
        if (!holds) {
            wrong++;
            System.out.println("does not hold: " + what);
        }
    }

    static void write(HeaderWays x, String text) {
        for (int i = 0; i < text.length(); i++) {
            x.write(text.charAt(i));
        }
    }

    static void tell(HeaderWays x, String text, int clauses) {
        write(x, text);
        is("tell() of " + text, x.tell(), clauses);
    }

    static HeaderWays told(String text) {
        HeaderWays x = new HeaderWays();
        write(x, text);
        isTrue("tell() does " + text, x.tell() > 0);
        return x;
    }

    /** Ends the test: with 1, if an answer was not the one that was due. */
    static void end() {
        System.out.println(asked + " answers, " + wrong + " of them not as due");
        if (wrong > 0) {
            System.exit(1);
        }
    }
}
