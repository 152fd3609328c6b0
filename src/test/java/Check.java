/** Counts the answers that are not as due. */
final class Check {
    private int wrong = 0;
    private int asked = 0;

    void due(String call, long got, long want) {
        asked++;
        if (got != want) {
            wrong++;
            System.out.println(call + " answered " + got + ", due is " + want);
        }
    }

    void holds(String what, boolean so) {
        asked++;
        if (!so) {
            wrong++;
            System.out.println("does not hold: " + what);
        }
    }

    boolean failed() {
        return wrong > 0;
    }

    void finish() {
        System.out.println(wrong == 0 ? asked + " answers, all as due" : wrong + " of " + asked + " answers are not as due");
        if (wrong > 0) {
            System.exit(1);
        }
    }
}
