/** Counts and prints the answers that are not as due; the tests share it. */
final class Due {
    private int wrong = 0;
    private int asked = 0;

    void is(String what, long got, long want) {
        asked++;
        if (got != want) {
            say(what + " answered " + got + ", due is " + want);
        }
    }

    void is(String what, double got, double want) {
        asked++;
        if (Double.compare(got, want) != 0) {
            say(what + " answered " + got + ", due is " + want);
        }
    }

    void isText(String what, String got, String want) {
        asked++;
        if (!got.equals(want)) {
            say(what + " answered " + got + ", due is " + want);
        }
    }

    void say(String text) {
        wrong++;
        if (wrong <= 50) {
            System.out.println(text);
        }
    }

    int wrong() {
        return wrong;
    }

    /** Ends the machine with 1, if there was a wrong answer. */
    void end() {
        System.out.println(asked + " answers, " + wrong + " not as due");
        if (wrong != 0) {
            System.exit(1);
        }
    }
}
