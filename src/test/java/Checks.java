/** Counts the answers that are not the due ones, and ends a test with exit code 1 if there was one. */
final class Checks {
    private int wrong = 0;
    private String sentence = "";

    /** The document's words that the checks from here on are about: they are told with each wrong answer. */
    void sentence(String words) {
        sentence = "\"" + words + "\": ";
    }

    void due(String call, int got, int want) {
        if (got != want) {
            wrong++;
            System.out.println(sentence + call + " answered " + got + ", due is " + want);
        }
    }

    void holds(String what, boolean isSo) {
        if (!isSo) {
            wrong++;
            System.out.println(sentence + "does not hold: " + what);
        }
    }

    int wrong() {
        return wrong;
    }

    void end() {
        if (wrong != 0) {
            System.out.println(wrong + " answers are not as due");
            System.exit(1);
        }
    }

    /** A new object with one ITEM of each KIND, its number being the KIND's; rows have n PLACES. */
    static MailRooms oneOfEach(int n) {
        MailRooms x = new MailRooms();
        for (int kind = 0; kind <= 12; kind++) {
            x.make(kind, n);
        }
        return x;
    }
}
