/** Every sentence of the document that names a boundary case, with a test of its own: the sentence, calls, answers. */
public final class EdgeTest {
    private EdgeTest() {
    }

    public static void main(String[] args) {
        EdgesOfAnswers.all();
        EdgesOfRing.all();
        EdgesOfHabits.all();
        EdgesOfTicks.all();
        EdgesOfForetelling.all();
        EdgesOfSheets.all();
        Document.isQuotedWhole();
        Due.end();
    }
}
