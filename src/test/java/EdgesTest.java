import java.io.IOException;

/** Each sentence of the document has a test of its own here, with the edges that it names. */
public final class EdgesTest {
    private EdgesTest() {
    }

    public static void main(String[] args) throws IOException {
        Doc.open();
        FindingEdges.all();
        RefusedEdges.all();
        KindEdges.all();
        DayEdges.all();
        TextEdges.all();
        BasinEdges.all();
        PeopleEdges.all();
        AheadEdges.all();
        BestEdges.all();
        SheetEdges.all();
        ImageEdges.all();
        Doc.close();
        Due.end();
    }
}
