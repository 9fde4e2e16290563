import java.lang.reflect.Constructor;
import java.lang.reflect.Member;
import java.lang.reflect.Method;
import java.lang.reflect.Modifier;

/** Promises 1 and 29 to 34: a new object and its face, images, kinds, asks and their trace. */
public final class AskedTest {
    private static final String FIVE = "d1,3;a5,20;n3,9;g8,30;t6,14;p4,2;r0;r2;r4;";

    public static void main(String[] args) {
        aNewObjectHasNoTown();
        theFaceIsAsTold();
        imagesAreKept();
        kindsAreTold();
        streetsAreTakenAsKinds();
        bodiesAnswer();
        refusedAsksLeaveTheTrace();
        Due.end();
    }

    private static void aNewObjectHasNoTown() {
        DrumPeace x = new DrumPeace();
        for (int what = 0; what <= 9; what++) {
            Due.due("count " + what, x.count(what), 0);
        }
        Due.due("fault", x.fault(), 0);
        Due.due("status", x.status(), 0);
        Due.due("kind", x.kind(0), DrumPeace.BAD);
        Due.due("alarm", x.alarm(), DrumPeace.STATE);
        Due.due("trace", x.trace(0), DrumPeace.NONE);
        Due.due("NONE", DrumPeace.NONE, -1000000);
        Due.due("BAD", DrumPeace.BAD, -1000001);
        Due.due("STATE", DrumPeace.STATE, -1000002);
        Due.due("FULL", DrumPeace.FULL, -1000003);
    }

    private static void theFaceIsAsTold() {
        Due.due("public, final", DrumPeace.class.getModifiers(), Modifier.PUBLIC | Modifier.FINAL);
        int methods = 0;
        for (Method m : DrumPeace.class.getDeclaredMethods()) {
            methods += open(m) ? 1 : 0;
        }
        Due.due("methods", methods, 35);
        int fields = 0;
        for (Member f : DrumPeace.class.getDeclaredFields()) {
            fields += open(f) ? 1 : 0;
        }
        Due.due("constants", fields, 4);
        int constructors = 0;
        for (Constructor<?> c : DrumPeace.class.getDeclaredConstructors()) {
            constructors += open(c) ? 1 : 0;
        }
        Due.due("constructors", constructors, 1);
    }

    private static boolean open(Member m) {
        return !Modifier.isPrivate(m.getModifiers()) && !m.isSynthetic();
    }

    private static void imagesAreKept() {
        DrumPeace x = new DrumPeace();
        Due.due("BAD ahead of STATE", x.image(2), DrumPeace.BAD);
        Due.due("image -1", x.image(-1), DrumPeace.BAD);
        Due.due("no town", x.image(0), DrumPeace.STATE);
        Due.due("restore 2", x.restore(2), DrumPeace.BAD);
        Due.due("restore -1", x.restore(-1), DrumPeace.BAD);
        Due.due("none was kept", x.restore(1), DrumPeace.STATE);
        Due.feed(x, FIVE);
        x.town();
        x.hours(2);
        Due.due("image", x.image(1), 1);
        Due.due("acts stay", x.count(8), 2);
        Due.due("the other was not kept", x.restore(0), DrumPeace.STATE);
        x.reach(3);
        x.beat(0, 4);
        x.lull(0, 20);
        x.bring(4, 60);
        x.hours(5);
        Due.feed(x, "d0,1;p1,1;r0;");
        x.town();
        Due.due("image 0", x.image(0), 1);
        Due.due("restore", x.restore(1), 1);
        townOfFiveAtHourTwo(x);
        Due.due("no act can be undone", x.undo(), DrumPeace.STATE);
        x.hours(1);
        Due.due("restore again", x.restore(1), 1);
        townOfFiveAtHourTwo(x);
        Due.due("restore the other", x.restore(0), 1);
        Due.due("streets", x.count(1), 1);
    }

    private static void townOfFiveAtHourTwo(DrumPeace x) {
        DrumPeace same = Due.town(FIVE);
        same.hours(2);
        for (int what = 1; what <= 7; what++) {
            Due.due("count " + what, x.count(what), same.count(what));
        }
        Due.due("acts", x.count(8), 0);
        for (int s = 0; s < 5; s++) {
            Due.due("kind " + s, x.kind(s), same.kind(s));
            for (int what = 0; what <= 4; what++) {
                Due.due("street " + s + " " + what, x.street(s, what), same.street(s, what));
            }
        }
        for (int b = 0; b < 3; b++) {
            Due.due("round " + b, x.round(b), same.round(b));
        }
    }

    private static void kindsAreTold() {
        DrumPeace x = Due.town(FIVE);
        for (int s = 0; s < 5; s++) {
            Due.due("kind " + s, x.kind(s), s + 1);
        }
        Due.due("kind 5", x.kind(5), DrumPeace.BAD);
        Due.due("kind -1", x.kind(-1), DrumPeace.BAD);
    }

    private static void streetsAreTakenAsKinds() {
        DrumPeace x = Due.town(FIVE);
        String[] are = {"01", "012", "013", "04", "045"};
        for (int s = 0; s < 5; s++) {
            for (int kind = 0; kind <= 5; kind++) {
                boolean is = are[s].indexOf('0' + kind) >= 0;
                Due.due(s + " as " + kind, x.as(s, kind), is ? s : Due.KIND);
                Due.due("status", x.status(), is ? 0 : 3);
            }
        }
        Due.due("kind 6", x.as(0, 6), DrumPeace.BAD);
        Due.due("kind -1", x.as(0, -1), DrumPeace.BAD);
        Due.due("street 5", x.as(5, 0), DrumPeace.BAD);
        Due.due("street -1", x.as(-1, 0), DrumPeace.BAD);
    }

    private static void asked(DrumPeace x, int street, int what, int want, int... bodies) {
        String call = "ask(" + street + ", " + what + ")";
        Due.due(call, x.ask(street, what), want);
        for (int i = 0; i < bodies.length; i++) {
            Due.due(call + ", trace " + i, x.trace(i), bodies[i]);
        }
        Due.due(call + ", the trace ends", x.trace(bodies.length), DrumPeace.NONE);
    }

    private static void bodiesAnswer() {
        DrumPeace x = Due.town(FIVE);
        asked(x, 0, 0, 25, 11, 10, 21, 20);
        asked(x, 0, 1, 5, 21, 20);
        asked(x, 1, 0, -17, 12, 11, 10, 24, 21, 20);
        asked(x, 1, 1, 8, 24, 21, 20);
        asked(x, 2, 0, 30 + 2 + 8 - 1000, 11, 10, 22, 21, 20);
        asked(x, 2, 1, 2 + 8 - 1000, 22, 21, 20);
        asked(x, 3, 0, 14 - 100, 13, 10);
        asked(x, 3, 1, 3 - (14 - 100), 23, 20, 13, 10);
        asked(x, 4, 0, 2 * (2 - 100), 14, 13, 10);
        asked(x, 4, 1, 4 - 2 * (2 - 100), 23, 20, 14, 13, 10);
    }

    private static void refusedAsksLeaveTheTrace() {
        DrumPeace x = Due.town(FIVE);
        x.ask(3, 0);
        Due.due("what 2", x.ask(0, 2), DrumPeace.BAD);
        Due.due("what -1", x.ask(0, -1), DrumPeace.BAD);
        Due.due("street 5", x.ask(5, 0), DrumPeace.BAD);
        Due.due("street -1", x.ask(-1, 0), DrumPeace.BAD);
        Due.due("trace 0", x.trace(0), 13);
        Due.due("trace 1", x.trace(1), 10);
        Due.due("trace -1", x.trace(-1), DrumPeace.NONE);
        Due.due("trace least", x.trace(Integer.MIN_VALUE), DrumPeace.NONE);
        Due.due("trace most", x.trace(Integer.MAX_VALUE), DrumPeace.NONE);
    }
}
