import java.util.List;
import java.util.function.Supplier;

/** Promises 1 to 6, and "Joints, members" under Terms: each sentence that names an edge, on its own. */
public final class JointEdgesTest {
    private static final Check CHECK = new Check();

    private JointEdgesTest() {
    }

    public static void main(String[] args) {
        noJoints();
        jointNumbers();
        jointRoom();
        points();
        moves();
        notPinned();
        pins();
        memberNumbers();
        memberRoom();
        kinds();
        betweenTwo();
        oneAtMost();
        goneForGood();
        leftThen();
        notGoneAlone();
        whateverTheirKinds();
        lastCall();
        CHECK.end("JointEdgesTest");
    }

    private static void same(Object due, Object got, String what) {
        CHECK.same(due, got, what);
    }

    private static void noJoints() {
        CHECK.sentence("No joints.");
        same(0, new Stresswork().joint(0, 0), "the first joint's number");
        CHECK.eachThrows(Check.INDEX, new Stresswork(), "joint 0 of none", Calls.withJoint(0));
        CHECK.eachThrows(Check.INDEX, new Stresswork(), "member 0 of none", Calls.withMember(0));
        Stresswork other = Yards.full();
        same(0, new Stresswork().rank(), "an object has nothing of another one");
        same(17, other.rank(), "the other one");
    }

    private static void jointNumbers() {
        CHECK.sentence("Joints are numbered from 0");
        int[] outside = {-1, 10, 11, Integer.MIN_VALUE, Integer.MAX_VALUE};
        for (int count : new int[] {1, 2, 9, 10}) {
            Stresswork yard = Yards.loose(count);
            CHECK.eachThrows(Check.INDEX, yard, "the first that is not, of " + count, Calls.withJoint(count));
            for (int joint : outside) {
                CHECK.eachThrows(Check.INDEX, yard, "joint " + joint + " of " + count, Calls.withJoint(joint));
            }
            acceptedAt(yard, 0);
            acceptedAt(yard, count - 1);
        }
    }

    private static void acceptedAt(Stresswork yard, int joint) {
        yard.move(joint, 7, -joint);
        same(7, yard.ofJoint(joint, 0), "x of joint " + joint);
        same(-joint, yard.ofJoint(joint, 1), "y of joint " + joint);
        same(false, yard.pin(joint, true), "pin of joint " + joint);
        same(true, yard.pin(joint, false), "the pin out of joint " + joint);
        same(-1, yard.range(joint, 5), "range of joint " + joint);
        same(5, yard.range(joint, -1), "the range back of joint " + joint);
        same(0, yard.flex(0, joint, true), "flex 0 at y of joint " + joint);
    }

    private static void jointRoom() {
        CHECK.sentence("up to 10");
        Stresswork yard = new Stresswork();
        for (int i = 0; i < 10; i++) {
            same(i, yard.joint(i, 0), "joint " + i);
        }
        CHECK.refused(Check.STATE, () -> Yards.loose(10), y -> y.joint(0, 0), "an eleventh joint");
        CHECK.refused(Check.STATE, Yards::full, y -> y.joint(50, 50), "an eleventh joint of a full yard");
        Supplier<Stresswork> grown = () -> {
            Stresswork nine = Yards.loose(9);
            nine.grow(0, 1, 0, 0);
            return nine;
        };
        CHECK.refused(Check.STATE, grown, y -> y.joint(0, 0), "an eleventh where the tenth was grown");
        yard.pin(9, true);
        same("IllegalStateException", Check.thrown(yard, y -> y.joint(0, 0)), "pinned ones count too");
    }

    private static void points() {
        CHECK.sentence("each at a point, x and y from -50 to 50");
        Stresswork yard = new Stresswork();
        int[][] corners = {{-50, -50}, {-50, 50}, {50, -50}, {50, 50}, {0, 0}};
        for (int i = 0; i < corners.length; i++) {
            same(i, yard.joint(corners[i][0], corners[i][1]), "a corner's joint");
            same(corners[i][0], yard.ofJoint(i, 0), "x of joint " + i);
            same(corners[i][1], yard.ofJoint(i, 1), "y of joint " + i);
        }
        for (int far : new int[] {-51, 51, Integer.MIN_VALUE, Integer.MAX_VALUE}) {
            CHECK.eachRefused(Check.ARGUMENT, Yards::busy, "at " + far, List.of(
                    y -> y.joint(far, 0), y -> y.joint(0, far), y -> y.joint(far, far)));
        }
    }

    private static void moves() {
        CHECK.sentence("Moves a joint.");
        Stresswork yard = Yards.loose(2);
        int[][] corners = {{-50, -50}, {-50, 50}, {50, -50}, {50, 50}, {50, 50}};
        for (int[] corner : corners) {
            yard.move(1, corner[0], corner[1]);
            same(corner[0], yard.ofJoint(1, 0), "x then");
            same(corner[1], yard.ofJoint(1, 1), "y then");
            same(0, yard.ofJoint(0, 0), "x of the other one");
            same(-40, yard.ofJoint(0, 1), "y of the other one");
        }
        for (int far : new int[] {-51, 51, Integer.MIN_VALUE, Integer.MAX_VALUE}) {
            CHECK.eachRefused(Check.ARGUMENT, Yards::busy, "to " + far, List.of(
                    y -> y.move(5, far, 0), y -> y.move(5, 0, far), y -> y.move(0, far, far)));
        }
        yard.move(1, 0, -40);
        yard.member(0, 1, Stresswork.BAR);
        same(0, yard.rank(), "onto the other one: a member without length");
    }

    private static void notPinned() {
        CHECK.sentence("Sets a joint up, not pinned.");
        Stresswork yard = Yards.loose(2);
        Yards.pinAll(yard, 2);
        same(2, yard.joint(0, 0), "a joint beside pinned ones");
        same(2, yard.motions(), "its motions");
        same(false, yard.pin(2, false), "whether it was");
    }

    private static void pins() {
        CHECK.sentence("Returns whether it was.");
        Stresswork yard = Yards.loose(3);
        boolean[] asked = {false, true, true, false, false, true};
        boolean was = false;
        for (boolean pinned : asked) {
            same(was, yard.pin(1, pinned), "pinned " + pinned);
            was = pinned;
        }
        same(false, yard.pin(0, false), "the joint ahead");
        same(false, yard.pin(2, false), "the joint behind");
        yard.move(1, 3, 3);
        same(true, yard.pin(1, true), "a move leaves the pin");
    }

    private static void memberNumbers() {
        CHECK.sentence("Members are numbered from 0");
        int[] outside = {-1, 40, 41, Integer.MIN_VALUE, Integer.MAX_VALUE};
        for (int count : new int[] {1, 2, 39, 40}) {
            Stresswork yard = Yards.used(count);
            CHECK.eachThrows(Check.INDEX, yard, "the first that is not, of " + count, Calls.withMember(count));
            for (int member : outside) {
                CHECK.eachThrows(Check.INDEX, yard, "member " + member + " of " + count, Calls.withMember(member));
            }
            acceptedMember(yard, count - 1);
            same(0, yard.remove(count - 1), "the last one is taken away");
        }
        Stresswork full = Yards.full();
        acceptedMember(full, 0);
        acceptedMember(full, 39);
        CHECK.eachThrows(Check.INDEX, full, "member 40 of 40", Calls.withMember(40));
        same(39, full.remove(39), "taken away, of 40");
    }

    private static void acceptedMember(Stresswork yard, int member) {
        same(0, yard.stress(member, 6), "stress of member " + member);
        same(6, yard.stress(member, 0), "stress back of member " + member);
        int ends = yard.block(member);
        same(true, Integer.bitCount(ends) >= 2, "block of member " + member);
        yard.isKept(member);
        yard.isRedundant(member);
        same(true, yard.balance(0, member) >= -1, "balance at member " + member);
    }

    private static void memberRoom() {
        CHECK.sentence("up to 40 ever");
        Stresswork yard = Yards.used(39);
        same(39, yard.member(2, 3, Stresswork.STRUT), "the fortieth");
        same("IllegalStateException", Check.thrown(yard, y -> y.member(1, 2, 0)), "one more");
        CHECK.refused(Check.STATE, Yards::full, y -> y.member(8, 9, 0), "one more, all of 40 there");
        CHECK.refused(Check.STATE, () -> Yards.used(40), y -> y.member(2, 3, 0), "one more, 39 gone");
        Supplier<Stresswork> emptied = () -> {
            Stresswork gone = Yards.used(40);
            gone.remove(39);
            return gone;
        };
        CHECK.refused(Check.STATE, emptied, y -> y.member(0, 1, 0), "one more, all gone");
        Stresswork bars = Yards.used(35);
        bars.grow(0, 2, 1, 1);
        same(37, bars.member(2, 3, Stresswork.BAR), "the bars of a growth count");
        Stresswork split = Yards.used(35);
        split.split(34, 2, 1, 1);
        split.undo();
        same(38, split.member(2, 3, Stresswork.BAR), "the bars of a split that was undone count");
    }

    private static void kinds() {
        CHECK.sentence("a BAR, a CABLE or a STRUT");
        boolean[][] proper = {{true, true}, {true, false}, {false, true}};
        for (int kind = 0; kind < 3; kind++) {
            Stresswork yard = Yards.loose(2);
            Yards.pinAll(yard, 2);
            same(0, yard.member(1, 0, kind), "kind " + kind);
            yard.stress(0, 1);
            same(proper[kind][0], yard.isProper(), "kind " + kind + " above 0");
            yard.stress(0, -1);
            same(proper[kind][1], yard.isProper(), "kind " + kind + " below 0");
        }
        for (int kind : new int[] {-1, 3, Integer.MIN_VALUE, Integer.MAX_VALUE}) {
            CHECK.refused(Check.ARGUMENT, () -> Yards.loose(2), y -> y.member(0, 1, kind), "kind " + kind);
            CHECK.refused(Check.ARGUMENT, Yards::busy, y -> y.member(1, 2, kind), "kind " + kind);
        }
    }

    private static void betweenTwo() {
        CHECK.sentence("each between two joints");
        for (int joint = 0; joint < 4; joint++) {
            int one = joint;
            CHECK.refused(Check.ARGUMENT, Yards::braced, y -> y.member(one, one, 0), "both are joint " + joint);
        }
        Stresswork yard = Yards.loose(10);
        same(0, yard.member(9, 0, Stresswork.BAR), "from the last to the first");
        same(1, yard.member(8, 9, Stresswork.BAR), "to the last");
        same(513, yard.block(0), "its ends");
        same(768, yard.block(1), "the other one's ends");
    }

    private static void oneAtMost() {
        CHECK.sentence("Two joints have one member at most that is not gone.");
        for (int kind = 0; kind < 3; kind++) {
            int asked = kind;
            CHECK.refused(Check.STATE, Yards::braced, y -> y.member(0, 1, asked), "one more, of kind " + kind);
            CHECK.refused(Check.STATE, Yards::braced, y -> y.member(1, 0, asked), "turned, of kind " + kind);
        }
        Stresswork yard = Yards.loose(3);
        same(0, yard.member(0, 1, Stresswork.BAR), "the first");
        same(1, yard.member(0, 2, Stresswork.BAR), "one with the same first end");
        same(2, yard.member(2, 1, Stresswork.BAR), "one with the same second end");
        yard.remove(0);
        same(3, yard.member(1, 0, Stresswork.CABLE), "when that is gone, another");
        same("IllegalStateException", Check.thrown(yard, y -> y.member(0, 1, 0)), "they have that one then");
        Stresswork grown = Yards.loose(2);
        grown.grow(0, 1, 5, 5);
        same("IllegalStateException", Check.thrown(grown, y -> y.member(2, 0, 0)), "a bar of a step is one");
    }

    private static void goneForGood() {
        CHECK.sentence("a member can be taken away, and is gone then, for good");
        Stresswork yard = Yards.braced();
        yard.remove(0);
        CHECK.eachThrows(Check.INDEX, yard, "the first, gone", Calls.withMember(0));
        yard.remove(5);
        CHECK.eachThrows(Check.INDEX, yard, "the last, gone", Calls.withMember(5));
        same(6, yard.member(0, 1, Stresswork.BAR), "no number comes again");
        same(7, yard.member(1, 3, Stresswork.BAR), "nor the last one's");
        CHECK.eachThrows(Check.INDEX, yard, "gone still", Calls.withMember(0));
        CHECK.eachThrows(Check.INDEX, yard, "gone still, the last", Calls.withMember(5));
        Stresswork again = Yards.loose(2);
        for (int i = 0; i < 40; i++) {
            same(i, again.member(0, 1, Stresswork.BAR), "set and taken away");
            same(0, again.remove(i), "set and taken away");
        }
    }

    private static void leftThen() {
        CHECK.sentence("Returns how many there are then.");
        Stresswork full = Yards.full();
        for (int i = 0; i < 40; i++) {
            same(39 - i, full.remove(i), "when member " + i + " was taken away");
        }
        same(0, full.rank(), "none is left");
        Stresswork one = Yards.complete(2);
        same(0, one.remove(0), "when the only one was taken away");
        CHECK.refused(Check.INDEX, () -> {
            Stresswork gone = Yards.complete(2);
            gone.remove(0);
            return gone;
        }, y -> y.remove(0), "once more");
    }

    /** All that is asked of the members together: the same for a yard in which those that are gone never were. */
    private static String asked(Stresswork yard) {
        StringBuilder text = new StringBuilder();
        text.append(yard.rank()).append(' ').append(yard.motions()).append(' ').append(yard.stresses());
        text.append(' ').append(yard.rankAt(99)).append(' ').append(yard.kept()).append(' ').append(yard.lacks());
        text.append(' ').append(yard.isGlobal()).append(' ').append(yard.unbalanced()).append(' ').append(yard.matrix());
        for (int joint = 0; joint < 5; joint++) {
            text.append(' ').append(yard.ofJoint(joint, 2)).append(' ').append(yard.flex(0, joint, true));
        }
        return text.toString();
    }

    private static void notGoneAlone() {
        CHECK.sentence("What follows is of the members that are not gone");
        for (int without = 0; without < 8; without++) {
            Stresswork never = Yards.loose(5);
            Stresswork gone = Yards.loose(5);
            for (int i = 0; i < 8; i++) {
                // Spokes of a wheel, then its rim.
                int from = i < 4 ? 4 : i - 4;
                int to = i < 4 ? i : (i - 3) % 4;
                gone.stress(gone.member(from, to, Stresswork.BAR), 3 + i);
                if (i != without) {
                    never.stress(never.member(from, to, Stresswork.BAR), 3 + i);
                }
            }
            gone.remove(without);
            same(asked(never), asked(gone), "without member " + without);
        }
    }

    private static void whateverTheirKinds() {
        CHECK.sentence("whatever their kinds, if nothing else is told");
        Stresswork bars = Yards.wheel(4);
        for (int kind = 1; kind < 3; kind++) {
            Stresswork others = Yards.loose(5);
            for (int i = 1; i <= 4; i++) {
                others.member(0, i, kind);
            }
            for (int i = 1; i <= 4; i++) {
                others.member(i, i % 4 + 1, kind);
            }
            for (int i = 0; i < 8; i++) {
                bars.stress(i, 4);
                others.stress(i, 4);
                same(bars.isRedundant(i), others.isRedundant(i), "redundant, of kind " + kind);
                same(bars.isKept(i), others.isKept(i), "kept, of kind " + kind);
                same(bars.block(i), others.block(i), "block, of kind " + kind);
                same(bars.balance(0, i), others.balance(0, i), "balance, of kind " + kind);
            }
            same(asked(bars), asked(others), "all together, of kind " + kind);
        }
    }

    private static void lastCall() {
        CHECK.sentence("An object is used for at most 512 calls after it has been made");
        Stresswork yard = new Stresswork();
        yard.joint(0, 0);
        yard.joint(1, 0);
        yard.member(0, 1, Stresswork.BAR);
        for (int call = 4; call <= 512; call++) {
            same(call == 4 ? 0 : (call - 1) % 100, yard.stress(0, call % 100), "call " + call);
        }
        Stresswork steps = Yards.loose(2);
        for (int call = 3; call <= 512; call++) {
            boolean grows = call % 2 == 1;
            // Twenty growths set forty bars; from then on all is refused.
            String due = call > 42 ? "IllegalStateException" : grows ? "2" : "0";
            same(due, Observed.answer(steps, y -> grows ? y.grow(0, 1, 2, 2) : y.undo()), "call " + call);
        }
    }
}
