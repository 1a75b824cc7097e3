/** Counts the answers that are not as due, and prints them. */
final class Checks {
    private static int wrong = 0;
    private static int made = 0;
    private static String subject = "";

    private Checks() {
    }

    /** What the next answers are about; it is printed ahead of those that are not as due. */
    static void about(String what) {
        subject = what + ": ";
    }

    static int made() {
        return made;
    }

    static void due(String call, long got, long want) {
        count(call, got == want, "" + got, "" + want);
    }

    static void due(String call, double got, double want) {
        count(call, Double.compare(got, want) == 0, "" + got, "" + want);
    }

    private static void count(String call, boolean asDue, String got, String want) {
        made++;
        if (!asDue) {
            wrong++;
            System.out.println(subject + call + " answered " + got + ", due is " + want);
        }
    }

    static void holds(String what, boolean held) {
        due(what, held ? 1 : 0, 1);
    }

    static boolean anyWrong() {
        return wrong > 0;
    }

    /** Ends the program: with exit code 1 if an answer was wrong or if there was none at all. */
    static void end(String test) {
        System.out.println(test + ": " + made + " answers, " + wrong + " not as due");
        System.exit(wrong == 0 && made > 0 ? 0 : 1);
    }
}
