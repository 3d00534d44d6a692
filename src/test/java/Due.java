/** Compares answers with those that are due, and counts the wrong ones. */
final class Due {
    private int wrong;
    private int told;

    void is(String call, long got, long want) {
        told++;
        if (got != want) {
            wrong++;
            System.out.println(call + " answered " + got + ", due is " + want);
        }
    }

    void is(String call, boolean got, boolean want) {
        is(call, got ? 1 : 0, want ? 1 : 0);
    }

    void is(String call, String got, String want) {
        told++;
        if (!got.equals(want)) {
            wrong++;
            System.out.println(call + " answered \"" + got + "\", due is \"" + want + "\"");
        }
    }

    void end() {
        System.out.println(wrong == 0 ? told + " answers are as due" : wrong + " of " + told + " answers are not as due");
        if (wrong != 0) {
            System.exit(1);
        }
    }
}
