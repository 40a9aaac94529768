/** What an object answers is told for 512 calls: a new one comes ahead of that. */
final class Fresh {
    private LetterForms x = new LetterForms();
    private int calls = 0;

    /** For one call more. */
    LetterForms next() {
        calls++;
        if (calls > 500) {
            x = new LetterForms();
            calls = 1;
        }
        return x;
    }
}
