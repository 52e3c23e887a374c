import java.nio.file.Files;
import java.nio.file.Path;
import java.util.BitSet;
import java.util.LinkedHashMap;
import java.util.Map;
import java.util.regex.Matcher;
import java.util.regex.Pattern;

/** Tests that name the sentence of the document which they hold the class to. */
abstract class Sentences extends Checks {
    /** By what a boundary is known in the document: its constants, bounds told as a .. b, words of most and least. */
    private static final Pattern MARKS = Pattern.compile("\\b(NONE|RANGE|FULL|STATE|LOST|\\w+ \\.\\. \\w+|most|least|first"
            + "|last|greatest|alone|exactly|exact|cut|unlike|alike|none|nobody|never|empty|empties|gone|long|many|more"
            + "|fewer|below|ahead|behind|others?|another|too|same|again|stays|SURELY|barred|may|dies)\\b");

    private static final Map<String, Integer> ANSWERS = new LinkedHashMap<>();
    private static String open;
    private static int madeAhead;

    static void sentence(String words) {
        close();
        open = words;
        madeAhead = made;
        about = "\"" + words + "\"";
    }

    private static void close() {
        if (open != null) {
            ANSWERS.merge(open, made - madeAhead, Integer::sum);
        }
    }

    private static void fail(String what) {
        wrong++;
        System.out.println(what);
    }

    /** Each sentence stands in the document and has answers; none that names a boundary is left out. */
    static void compareWith(Path document) throws Exception {
        close();
        if (!Files.isReadable(document)) {
            System.out.println("no " + document + " to compare the sentences with");
            return;
        }
        String text = Files.readString(document).replace("```text", "").replace("```", "").replace("`", "")
                .replaceAll("\\s+", " ");
        BitSet covered = new BitSet();
        ANSWERS.forEach((words, answers) -> {
            int place = text.indexOf(words);
            if (place < 0) {
                fail("the document has no \"" + words + "\"");
            }
            if (answers == 0) {
                fail("no answer is looked at for \"" + words + "\"");
            }
            while (place >= 0) {
                covered.set(place, place + words.length());
                place = text.indexOf(words, place + 1);
            }
        });
        leftOut(text, text.indexOf("## Terms"), text.indexOf("The constants:"), covered);
        leftOut(text, text.indexOf("## Promise 1:"), text.indexOf("## Not promised"), covered);
        System.out.println(ANSWERS.size() + " sentences");
    }

    private static void leftOut(String text, int from, int to, BitSet covered) {
        if (from < 0 || to < from) {
            fail("the document is not as it was");
            return;
        }
        Matcher mark = MARKS.matcher(text).region(from, to);
        while (mark.find()) {
            if (covered.nextClearBit(mark.start()) < mark.end()) {
                fail("no test for \"" + text.substring(Math.max(from, mark.start() - 50),
                        Math.min(to, mark.end() + 30)) + "\"");
            }
        }
    }
}
