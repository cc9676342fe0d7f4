import java.util.Arrays;

/**
 * Counts the answers of one test that are not as due, under the sentence of the document that asks for them;
 * end() closes the program with 1 if there was one, or if a sentence asked nothing.
 */
final class Check {
    private String sentence = null;
    private int asked = 0;
    private int wrong = 0;
    private int failed = 0;

    void sentence(String words) {
        close();
        sentence = words;
    }

    void due(String call, long got, long want) {
        asked++;
        if (got != want) {
            wrong++;
            System.out.println("    " + call + " answered " + got + ", due is " + want);
        }
    }

    void due(String call, boolean got, boolean want) {
        due(call, got ? 1L : 0L, want ? 1L : 0L);
    }

    void due(String call, long[] got, long[] want) {
        asked++;
        if (!Arrays.equals(got, want)) {
            wrong++;
            System.out.println(
                "    " + call + " answered " + Arrays.toString(got) + ", due is " + Arrays.toString(want));
        }
    }

    void end() {
        close();
        if (failed != 0) {
            System.exit(1);
        }
    }

    private void close() {
        if (sentence != null) {
            boolean holds = asked > 0 && wrong == 0;
            failed += holds ? 0 : 1;
            System.out.println("  " + (holds ? "holds  " : "BROKEN ") + sentence + " (" + asked + " answers)");
        }
        asked = 0;
        wrong = 0;
    }
}
