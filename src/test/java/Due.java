/** Counts the answers that are not as due, and ends the test by them. */
final class Due {
    private final String test;
    private String asksFor = "the document";
    private int checks;
    private int wrong;

    Due(String test) {
        this.test = test;
    }

    /** What follows is asked for by this promise. */
    void promise(int number) {
        asksFor = "promise " + number;
    }

    /** What follows is asked for by these words of the document, which stand at this place of it. */
    void says(String place, String words) {
        asksFor = place + " (\"" + words + "\")";
    }

    void is(String call, long got, long want) {
        checks++;
        if (got != want) {
            wrong++;
            System.out.println(asksFor + ": " + call + " answered " + got + ", due is " + want);
        }
    }

    void is(String call, boolean got, boolean want) {
        is(call, got ? 1 : 0, want ? 1 : 0);
    }

    void end() {
        System.out.println(test + ": " + checks + " answers, " + wrong + " not as due");
        if (wrong != 0 || checks == 0) {
            System.exit(1);
        }
    }
}
