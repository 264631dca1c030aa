import java.io.IOException;
import java.util.ArrayList;
import java.util.List;
import java.util.Set;

/** Each sentence of the document that names a boundary case has a test of its own, and holds. */
public final class BoundariesTest {
    public static void main(String[] args) throws IOException {
        Check check = new Check("BoundariesTest");
        Cases[] chapters = {new PlayCases(check), new SceneCases(check), new TownCases(check), new RefusedCases(check),
            new TellingCases(check), new AskingCases(check)};
        for (Cases chapter : chapters) {
            chapter.all();
        }
        everySentence(check, Document.read());
        check.end();
    }

    private static void everySentence(Check check, Document document) {
        if (!document.isThere()) {
            System.out.println("BoundariesTest: the document is not there to be compared with");
            return;
        }
        List<String> nothing = new ArrayList<>();
        Set<String> said = check.said();
        check.due("sentences that the document does not have", nothing, () -> document.misquoted(said));
        check.due("sentences that have no test", nothing, () -> document.forgotten(said));
    }
}
