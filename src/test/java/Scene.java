import java.util.ArrayList;
import java.util.List;

/**
 * An object in which there is something of everything, so that a refused call that changed anything
 * can be told: it is compared with a twin on which that call was not made.
 */
final class Scene {
    static final int STATUS = 3;

    private Scene() {
    }

    /** Three streets, two beats, three acts, image 0, rows 0 to 2, a trace, a fault, a begun tape. */
    static Run made() {
        Run run = Run.fresh().then("\"d4\" town()").feed("d1,3;a5,20;n3,9;g8,30;r0;r2;").then("""
            town() row(0, 0, 12) row(1, 1, 4) row(2, 2, 4) set(0, 0, 7) set(0, 11, 9) set(1, 3, 12)
            hours(1) image(0) lull(0, 1) beat(1, 1) hours(1) ask(1, 0) as(0, 2)""");
        return run.feed("d1");
    }

    /** Whether all is as in a scene in which nothing was called, but for status(). */
    static void unchanged(String what, Run run, int status) {
        List<Integer> want = all(made(), STATUS);
        List<Integer> got = all(run, status);
        for (int i = 0; i < want.size(); i++) {
            if (!want.get(i).equals(got.get(i))) {
                Due.due(what + " changes nothing, look " + i, got.get(i), want.get(i));
                return;
            }
        }
        Due.due(what + " changes nothing", got.size(), want.size());
    }

    /** Whatever can be seen of an object; to see it, acts are undone, images restored, rows dropped. */
    private static List<Integer> all(Run run, int status) {
        List<Integer> seen = new ArrayList<>();
        seen.add(run.call("status") - status);
        seen.add(run.call("fault"));
        for (int i = 0; i <= 7; i++) {
            seen.add(run.call("trace", i));
        }
        seen.addAll(town(run));
        for (int acts = run.call("count", 8); acts > 0; acts--) {
            seen.add(run.call("undo"));
            seen.addAll(town(run));
        }
        seen.add(run.call("undo"));
        for (int k = 0; k <= 1; k++) {
            seen.add(run.call("restore", k));
            seen.addAll(town(run));
        }
        seen.addAll(tapeAndRows(run));
        return seen;
    }

    private static List<Integer> town(Run run) {
        List<Integer> seen = new ArrayList<>();
        for (int what = 0; what <= 9; what++) {
            seen.add(run.call("count", what));
        }
        for (int s = 0; s <= 3; s++) {
            seen.add(run.call("kind", s));
            seen.add(run.call("street", s, 0));
            seen.add(run.call("street", s, 1));
            seen.add(run.call("street", s, 2));
        }
        for (int b = 0; b <= 2; b++) {
            seen.add(run.call("round", b));
        }
        return seen;
    }

    /** The tape is seen by how it goes on, an item by the depth from which a tannery comes to it. */
    private static List<Integer> tapeAndRows(Run run) {
        List<Integer> seen = new ArrayList<>();
        run.feed(",2;t20,0;r0;");
        seen.add(run.call("town"));
        seen.add(run.call("count", 4));
        seen.add(run.call("count", 5));
        for (int row = 0; row <= 2; row++) {
            for (int i = 0; i < 12; i++) {
                seen.add(run.call("fits", 0, row, i, 1, 1));
            }
        }
        seen.add(run.call("copy", 0, 0, 1, 0, 0));
        seen.add(run.call("copy", 1, 0, 2, 0, 0));
        for (int row = 0; row <= 7; row++) {
            seen.add(run.call("drop", row));
        }
        return seen;
    }
}
