import java.util.function.Consumer;
import java.util.function.ToIntFunction;

/** Runs the tests of the document's sentences, one test for each, and tells the sentence with what is wrong. */
final class Bounds {
    /** Far away from every bound. */
    static final int LEAST = Integer.MIN_VALUE;
    static final int MOST = Integer.MAX_VALUE;

    private final Check check = new Check("BoundsTest");
    private final Document document = new Document();
    private String now = "";

    void sentence(int promise, String words, Runnable test) {
        now = "promise " + promise + " \"" + words + "\": ";
        due("is said in the document", document.quote(promise, words), true);
        try {
            test.run();
        } catch (RuntimeException e) {
            due("threw " + e, true, false);
        }
    }

    void end() {
        now = "";
        for (String words : document.leftOut()) {
            due("has a test: " + words, false, true);
        }
        check.end();
    }

    void due(String call, long got, long want) {
        check.due(now + call, got, want);
    }

    void due(String call, boolean got, boolean want) {
        check.due(now + call, got, want);
    }

    void due(String call, String got, String want) {
        check.due(now + call, got, want);
    }

    /** The call answers what is due, and nothing that later calls show is other than it was. */
    void refused(String call, int due, Consumer<Desk> build, ToIntFunction<Desk> refusedCall) {
        Desk desk = new Desk();
        build.accept(desk);
        due(call, refusedCall.applyAsInt(desk), due);
        due(call + ", again", refusedCall.applyAsInt(desk), due);
        due(call + " changed", Scene.change(build, refusedCall), "nothing");
    }

    /** As above, on the desk in use that Scene makes, with the text in its TAPE. */
    void refused(String call, int due, String tape, ToIntFunction<Desk> refusedCall) {
        refused(call, due, Scene.with(tape), refusedCall);
    }
}
