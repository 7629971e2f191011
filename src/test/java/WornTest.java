/**
 * Promise 3: what was read "is the book", and "What was checked or told is gone": every sentence that has an edge
 * is held against objects that were used before, too.
 */
public final class WornTest {
    public static void main(String[] args) {
        Due due = new Due();
        due.useWornObjects();
        TextEdgesTest.all(due);
        ActiveEdgesTest.all(due);
        FaultEdgesTest.all(due);
        LimitTest.all(due);
        ProofEdgesTest.all(due);
        StepEdgesTest.all(due);
        CallEdgesTest.all(due);
        ProvingEdgesTest.all(due);
        TellEdgesTest.all(due);
        due.end();
    }
}
