import java.io.IOException;

/** One test for each sentence of 'Terms' and of promises 1 to 35, above all at the edges that it names. */
public final class EdgesTest {
    public static void main(String[] args) throws IOException {
        Sentences all = new Sentences();
        TermsEdges.tell(all);
        TermsReckonEdges.tell(all);
        ParishPersonEdges.tell(all);
        FactLawEdges.tell(all);
        SettlementEdges.tell(all);
        OrderEdges.tell(all);
        ReliefRateEdges.tell(all);
        SheetWholeEdges.tell(all);
        all.run();
        Due.end();
    }
}
