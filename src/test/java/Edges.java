import java.nio.file.Path;

/** Each sentence of the document that names a boundary case, by a test of its own. */
public final class Edges extends Sentences {
    public static void main(String[] args) throws Exception {
        EdgesOfTexts.all();
        EdgesOfFaults.all();
        EdgesOfTellings.all();
        EdgesOfPieces.all();
        EdgesOfKeeping.all();
        EdgesOfRuns.all();
        EdgesOfNumbers.all();
        compareWith(Path.of(args.length > 0 ? args[0] : "../shared/DOC.md"));
        finish();
    }
}
