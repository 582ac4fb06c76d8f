/** Counts the answers that are not as due, and which promises were looked at. */
final class Check {
    private static int wrong = 0;
    private static int looked = 0;
    private static final boolean[] promises = new boolean[84];

    private Check() {
    }

    static void due(int promise, String call, long got, long want) {
        looked++;
        promises[promise] = true;
        if (got != want) {
            wrong++;
            System.out.println("promise " + promise + ": " + call + " answered " + got + ", due is " + want);
        }
    }

    static void dueTrue(String what, boolean holds) {
        looked++;
        if (!holds) {
            wrong++;
            System.out.println("does not hold: " + what);
        }
    }

    static void everyPromiseLookedAt() {
        for (int promise = 1; promise < promises.length; promise++) {
            dueTrue("promise " + promise + " has a check", promises[promise]);
        }
    }

    static void finish() {
        System.out.println(looked + " answers looked at, " + wrong + " not as due");
        if (wrong != 0) {
            System.exit(1);
        }
    }
}
