/** Tests each of which belongs to one sentence of the document that names a boundary case. */
final class Edges {
    static final int TERMS = 0;

    final Check check;
    final Document document = new Document();

    Edges(Check check) {
        this.check = check;
    }

    /** Scripts, each played on a new object, and on a new oracle. */
    void edge(int section, String sentence, String... scripts) {
        String name = named(section, sentence);
        for (String script : scripts) {
            int before = Script.made;
            Script.play(new GeeseKeys(), script, check, name);
            check.isSo(name + " in " + (Script.made - before) + " calls", Script.made - before <= Script.MOST_CALLS);
            Script.play(new Oracle(), script, check, name);
        }
    }

    /** How the rows of a sentence's tests begin. */
    String named(int section, String sentence) {
        String name = (section == TERMS ? "Terms" : "" + section) + " \"" + sentence + "\"";
        check.isSo(name + " stands in the document", document.name(section, sentence));
        return name;
    }

    /** Every sentence that names a boundary has a test. */
    void end() {
        for (int section = 0; section <= Document.PROMISES; section++) {
            for (String bound : document.unnamed(section)) {
                check.isSo("a test for section " + section + ", " + bound, false);
            }
        }
    }
}
