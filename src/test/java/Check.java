/** Counts and prints the answers that are not the ones that are due. */
final class Check {
    private int asked;
    private int wrong;

    void due(String call, long got, long want) {
        asked++;
        if (got != want) {
            wrong++;
            System.out.println(call + " answered " + got + ", due is " + want);
        }
    }

    int wrong() {
        return wrong;
    }

    /** Ends the program, with exit code 1 if an answer was wrong or none was asked for. */
    void end(String test) {
        System.out.println(test + ": " + asked + " answers, " + wrong + " of them not as due");
        System.exit(wrong == 0 && asked > 0 ? 0 : 1);
    }
}
