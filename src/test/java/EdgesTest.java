/** Each sentence of the document that names a boundary case, by a test of its own that quotes it. */
public final class EdgesTest {
    private EdgesTest() {
    }

    public static void main(String[] args) {
        EdgesOfRow.all();
        EdgesOfSpacing.all();
        EdgesOfRecords.all();
        EdgesOfTelling.all();
        EdgesOfTexts.all();
        EdgesOfStates.all();
        Doc.allTested();
        Due.end();
    }
}
