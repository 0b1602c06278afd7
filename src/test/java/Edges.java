/** What the edge tests share: the sentence that is tested by now, and whether answers are as due. */
final class Edges {
    final Check check = new Check();
    private final Document document;

    Edges(Document document) {
        this.document = document;
    }

    /** From here on a sentence of a promise is tested: quoted whole, or by a part that no other of that promise has. */
    void promise(int number, String words) {
        check.promise(number + ", \"" + words + "\"");
        check.due("it stands once in the document", document.quote(number, words) ? 1 : 0, 1);
    }

    void terms(String words) {
        check.promise("(Terms), \"" + words + "\"");
        check.due("it stands once in the document", document.quote(Document.TERMS, words) ? 1 : 0, 1);
    }

    /** A new object with one ROOM for each kind. */
    Story house(int... kinds) {
        Story story = new Story(check);
        for (int kind : kinds) {
            story.does("room " + kind);
        }
        return story;
    }

    /** A new object, late: the HOURS went by before there was a ROOM. */
    Story late(int hour, int... kinds) {
        Story story = new Story(check).passTo(hour);
        for (int kind : kinds) {
            story.does("room " + kind);
        }
        return story;
    }

    void end() {
        check.promise("(all)");
        for (String sentence : document.notQuoted()) {
            check.due("tests of \"" + sentence + "\"", 0, 1);
        }
        check.end();
    }
}
