/**
 * The document sentence by sentence, each with a test of its own: what is too small and too large,
 * empty and full, far away, refused. A sentence that no test says is told, and fails.
 */
public final class BoundaryTest {
    private BoundaryTest() {
    }

    public static void main(String[] args) throws Exception {
        Doc.read();
        PartOne.all();
        PartTwo.all();
        PartThree.all();
        PartFour.all();
        Faults.all();
        Answers.all();
        PromisesOne.all();
        PromisesTwo.all();
        Doc.allSaid();
        Doc.C.end();
    }
}
