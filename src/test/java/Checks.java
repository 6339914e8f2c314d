/** Compares answers with those that are due, and tells how a test ended. */
final class Checks {
    private static String test = "";
    private static int asked = 0;
    private static int wrong = 0;

    private Checks() {
    }

    /** What is compared from now on belongs to this test. */
    static void begin(String name) {
        test = name + ": ";
    }

    static void due(String call, long got, long want) {
        asked++;
        if (got != want) {
            wrong++;
            System.out.println(test + call + " answered " + got + ", due is " + want);
        }
    }

    static void due(String call, boolean got, boolean want) {
        due(call, got ? 1 : 0, want ? 1 : 0);
    }

    /** For answers that are many, told as texts. */
    static void same(String what, Object got, Object want) {
        boolean equal = got.equals(want);
        due(equal ? what : what + ": " + got + " instead of " + want, equal, true);
    }

    /** The last line of every test's main. A test that asked nothing has failed as well. */
    static void finish(String name) {
        System.out.println(name + ": " + asked + " answers, " + wrong + " not as due");
        if (wrong != 0 || asked == 0) {
            System.exit(1);
        }
    }
}
