/** As many objects as the questions on some texts need: each has read the same texts, one after the other. */
final class Readers {
    private final String[] texts;
    private Counted now;
    private String outcome = "";

    Readers(String... texts) {
        this.texts = texts;
    }

    /** One that has read the texts and has so many calls left, at the least. */
    Counted with(int calls) {
        if (now == null || now.callsLeft() < calls) {
            now = new Counted();
            for (String text : texts) {
                outcome = Checks.outcome(now, text);
            }
        }
        return now;
    }

    /** What read() did with the last of the texts. */
    String outcome() {
        with(0);
        return outcome;
    }

    /** STATEMENT k as it is told; a long one is told by several objects, each some of its bytes. */
    String told(int k) {
        StringBuilder b = new StringBuilder();
        int n = 0;
        do {
            Counted x = with(3);
            n = x.tell(k);
            while (b.length() < n && x.callsLeft() > 0) {
                b.append((char) x.letter(b.length()));
            }
        } while (b.length() < n);
        return n < 0 ? "none" : b.toString();
    }
}
