/** Counts and prints the answers that are not the ones that are due. */
final class Check {
    private static int wrong = 0;

    private Check() { }

    static void due(String what, int got, int want) {
        if (got != want) tell(what + " answered " + got + ", due is " + want);
    }

    static void tell(String fault) {
        wrong++;
        System.out.println(fault);
    }

    static void end(String allIsWell) {
        System.out.println(wrong == 0 ? allIsWell : wrong + " faults");
        if (wrong != 0) System.exit(1);
    }
}
