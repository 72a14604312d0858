/** Counts the answers that are not as due; a test ends with exit code 1 if there was one. */
final class Due {
    private static final int MOST_PRINTED = 50;

    private final String test;
    private int asked = 0;
    private int wrong = 0;

    Due(String test) {
        this.test = test;
    }

    void is(String call, long got, long want) {
        asked++;
        if (got != want) {
            tell(call + " answered " + got + ", due is " + want);
        }
    }

    void holds(String what, boolean does) {
        asked++;
        if (!does) {
            tell("does not hold: " + what);
        }
    }

    private void tell(String line) {
        wrong++;
        if (wrong <= MOST_PRINTED) {
            System.out.println(test + ": " + line);
        }
    }

    void end() {
        System.out.println(test + ": " + asked + " asked, " + wrong + " wrong");
        if (wrong != 0) {
            System.exit(1);
        }
    }
}
