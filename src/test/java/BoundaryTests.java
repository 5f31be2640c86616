/** Each sentence of the document that names a boundary, with a test of its own. */
public final class BoundaryTests extends Sentences {
    public static void main(String[] args) {
        BoundaryTerms.test();
        BoundaryRefusals.test();
        BoundaryRows.test();
        BoundaryTexts.test();
        BoundaryMessages.test();
        BoundaryDeeds.test();
        BoundaryComing.test();
        BoundaryWeb.test();
        BoundarySights.test();
        BoundaryChances.test();
        BoundaryTold.test();
        allPromisesAreQuoted();
        end("all boundaries are kept");
    }
}
