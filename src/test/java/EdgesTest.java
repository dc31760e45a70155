/** Each sentence of the document that names a boundary case, by a test of its own. */
public final class EdgesTest {
    public static void main(String[] args) {
        Edges e = new Edges();
        EdgesOfTokens.add(e);
        EdgesOfArrays.add(e);
        EdgesOfWorks.add(e);
        EdgesOfStripes.add(e);
        EdgesOfDisks.add(e);
        EdgesOfDesigns.add(e);
        EdgesOfOutlooks.add(e);
        EdgesOfSeen.add(e);
        EdgesOfCalls.add(e);
        EdgesOfOutlookCalls.add(e);
        e.end();
    }
}
