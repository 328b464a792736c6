/** Counts the answers of a test class that are not the due ones, and tells them. */
final class Due {
    private static int wrong = 0;
    private static int asked = 0;

    private Due() {
    }

    static void due(String call, long got, long want) {
        asked++;
        if (got != want) {
            wrong++;
            System.out.println(call + " answered " + got + ", due is " + want);
        }
    }

    static int wrongSoFar() {
        return wrong;
    }

    /** Types a text in place of the one that was. */
    static void put(GuardedPool pool, String text) {
        pool.clearText();
        for (int i = 0; i < text.length(); i++) {
            pool.type(text.charAt(i));
        }
    }

    static int perform(GuardedPool pool, String text) {
        put(pool, text);
        return pool.perform();
    }

    /** Ends the test class: with exit code 1 if an answer was wrong or none was looked at. */
    static void end(String name) {
        System.out.println(name + ": " + asked + " answers, " + wrong + " not as due");
        if (wrong != 0 || asked == 0) {
            System.exit(1);
        }
    }
}
