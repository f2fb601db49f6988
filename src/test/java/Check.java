/** Counts the answers that are as due, and prints those that are not. */
final class Check {
    private static int right = 0;
    private static int wrong = 0;

    private Check() {
    }

    static void due(String what, long got, long want) {
        tell(what, got == want, Long.toString(got), Long.toString(want));
    }

    static void due(String what, boolean got, boolean want) {
        tell(what, got == want, Boolean.toString(got), Boolean.toString(want));
    }

    static void due(String what, String got, String want) {
        tell(what, got.equals(want), got, want);
    }

    private static void tell(String what, boolean isRight, String got, String want) {
        if (isRight) {
            right++;
        } else {
            wrong++;
            System.out.println(what + " answered " + got + ", due is " + want);
        }
    }

    static int right() {
        return right;
    }

    static int wrong() {
        return wrong;
    }
}
