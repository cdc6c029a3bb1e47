import java.util.ArrayList;
import java.util.List;

/** Each sentence of the document that names a boundary has a run of its own: every answer is as due. */
final class SentencesTest {
    private static final Due due = new Due("SentencesTest");

    public static void main(String[] args) {
        int longest = 0;
        for (Run run : all()) {
            answers(run);
            longest = Math.max(longest, run.rows().size());
        }
        due.is("the calls of the longest run", 512, longest);
        due.end();
    }

    static List<Run> all() {
        List<Run> all = new ArrayList<>();
        all.addAll(BuildSentences.ALL);
        all.addAll(ReadingSentences.ALL);
        all.addAll(ServiceSentences.ALL);
        all.addAll(ImportSentences.ALL);
        all.addAll(LayerSentences.ALL);
        return all;
    }

    private static void answers(Run run) {
        PackageModules x = new PackageModules();
        int asked = 0;
        for (Run.Row row : run.rows()) {
            int got = row.on(x);
            if (row.due() == null) {
                // What a run only builds with must be taken, or the run would tell of something else.
                due.is("[" + run.sentence() + "] " + row.told() + " is taken", 1, got >= 0 ? 1 : 0);
            } else {
                due.is("[" + run.sentence() + "] " + row.told(), row.due(), got);
                asked++;
            }
        }
        due.is("[" + run.sentence() + "] asks", 1, asked > 0 ? 1 : 0);
    }
}
