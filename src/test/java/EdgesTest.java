/** Every sentence of 'Terms' and of the promises that names a boundary case, quoted, with what is due there. */
public final class EdgesTest {
    public static void main(String[] args) {
        TermsEdges.all();
        LawEdges.all();
        BlocksEdges.all();
        CenturiesEdges.all();
        ChancesEdges.all();
        DeedsEdges.all();
        ActsEdges.all();
        Doc.everySentenceIsQuoted();
        Check.end("EdgesTest");
    }
}
