import java.util.List;
import java.util.function.Supplier;

/**
 * "A call of a method that throws an exception changes nothing; if several exceptions apply, the one
 * that its throws lines name first is thrown": for each method each two that can apply at once, each
 * time with a look at all that the object answers afterwards.
 */
public final class ThrownEdgesTest {
    private static final Check CHECK = new Check();

    private ThrownEdgesTest() {
    }

    public static void main(String[] args) {
        CHECK.sentence("if several exceptions apply, the one that its @throws lines name first is thrown");
        jointsAndMembers();
        memberOfUsed();
        growth();
        splits();
        toldAndPlaces();
        CHECK.sentence("A call of a method that throws an exception changes nothing");
        stepsAreLeft();
        roomIsLeft();
        CHECK.end("ThrownEdgesTest");
    }

    private static void jointsAndMembers() {
        CHECK.eachRefused(Check.ARGUMENT, () -> Yards.loose(10), "joint: out of range ahead of ten", List.of(
                y -> y.joint(51, 0), y -> y.joint(0, -51), y -> y.joint(-51, 51)));
        CHECK.eachRefused(Check.INDEX, Yards::busy, "move: no joint ahead of out of range", List.of(
                y -> y.move(6, 51, 0), y -> y.move(-1, 0, -51), y -> y.move(10, 51, 51)));
        CHECK.eachRefused(Check.INDEX, Yards::busy, "member: no joint ahead of one and the same", List.of(
                y -> y.member(6, 6, 0), y -> y.member(-1, -1, 0), y -> y.member(10, 10, 3)));
        CHECK.eachRefused(Check.INDEX, Yards::busy, "member: no joint ahead of no kind", List.of(
                y -> y.member(6, 0, 3), y -> y.member(0, 6, -1), y -> y.member(0, -1, 3)));
        CHECK.eachRefused(Check.ARGUMENT, Yards::busy, "member: no kind ahead of that they have one", List.of(
                y -> y.member(0, 1, 3), y -> y.member(1, 0, -1), y -> y.member(0, 2, Integer.MAX_VALUE)));
    }

    private static void memberOfUsed() {
        Supplier<Stresswork> used = () -> Yards.used(40);
        CHECK.eachRefused(Check.INDEX, used, "member: no joint ahead of forty", List.of(
                y -> y.member(4, 0, 0), y -> y.member(0, 4, 0), y -> y.member(-1, 4, 7), y -> y.member(4, 4, 0)));
        CHECK.eachRefused(Check.ARGUMENT, used, "member: wrong inputs ahead of forty", List.of(
                y -> y.member(2, 2, 0), y -> y.member(2, 3, 3), y -> y.member(2, 3, -1), y -> y.member(0, 1, 3)));
        CHECK.refused(Check.STATE, used, y -> y.member(1, 0, 0), "member: they have one, and forty");
    }

    private static void growth() {
        CHECK.eachRefused(Check.INDEX, Yards::busy, "grow: no joint ahead of wrong inputs", List.of(
                y -> y.grow(6, 6, 0, 0), y -> y.grow(6, 0, 51, 0), y -> y.grow(0, 6, 0, -51), y -> y.grow(-1, -1, 99, 99)));
        CHECK.eachRefused(Check.INDEX, () -> Yards.loose(10), "grow: no joint ahead of ten", List.of(
                y -> y.grow(10, 0, 0, 0), y -> y.grow(0, 10, 0, 0), y -> y.grow(-1, 0, 0, 0)));
        CHECK.eachRefused(Check.ARGUMENT, () -> Yards.loose(10), "grow: wrong inputs ahead of ten", List.of(
                y -> y.grow(9, 9, 0, 0), y -> y.grow(0, 9, 51, 0), y -> y.grow(0, 9, 0, -51)));
        CHECK.eachRefused(Check.INDEX, () -> Yards.used(39), "grow: no joint ahead of 39", List.of(
                y -> y.grow(4, 0, 0, 0), y -> y.grow(0, -1, 0, 0)));
        CHECK.eachRefused(Check.ARGUMENT, () -> Yards.used(39), "grow: wrong inputs ahead of 39", List.of(
                y -> y.grow(3, 3, 0, 0), y -> y.grow(0, 3, -51, 0), y -> y.grow(0, 3, 0, 51)));
        CHECK.refused(Check.STATE, () -> Yards.usedOf(10, 40), y -> y.grow(0, 9, 0, 0), "grow: ten, and forty");
    }

    private static void splits() {
        CHECK.eachRefused(Check.INDEX, Yards::busy, "split: no member ahead of wrong inputs", List.of(
                y -> y.split(11, 0, 51, 0), y -> y.split(1, 1, 0, 0), y -> y.split(6, 4, 0, -51)));
        CHECK.eachRefused(Check.INDEX, Yards::busy, "split: no joint ahead of wrong inputs", List.of(
                y -> y.split(0, 6, 51, 0), y -> y.split(0, -1, 0, 51)));
        Supplier<Stresswork> ten = () -> Yards.usedOf(10, 2);
        CHECK.eachRefused(Check.INDEX, ten, "split: none ahead of ten", List.of(
                y -> y.split(0, 2, 0, 0), y -> y.split(2, 2, 0, 0), y -> y.split(1, 10, 0, 0), y -> y.split(1, -1, 0, 0)));
        CHECK.eachRefused(Check.ARGUMENT, ten, "split: wrong inputs ahead of ten", List.of(
                y -> y.split(1, 0, 0, 0), y -> y.split(1, 1, 0, 0), y -> y.split(1, 2, 51, 0), y -> y.split(1, 2, 0, -51)));
        Supplier<Stresswork> used = () -> Yards.used(38);
        CHECK.eachRefused(Check.INDEX, used, "split: none ahead of 38", List.of(
                y -> y.split(36, 2, 0, 0), y -> y.split(38, 2, 0, 0), y -> y.split(37, 4, 0, 0)));
        CHECK.eachRefused(Check.ARGUMENT, used, "split: wrong inputs ahead of 38", List.of(
                y -> y.split(37, 0, 0, 0), y -> y.split(37, 1, 0, 0), y -> y.split(37, 2, -51, 0),
                y -> y.split(37, 2, 0, 51)));
        CHECK.refused(Check.STATE, () -> Yards.usedOf(10, 40), y -> y.split(39, 2, 0, 0), "split: ten, and forty");
    }

    private static void toldAndPlaces() {
        CHECK.eachRefused(Check.INDEX, Yards::busy, "stress: no member ahead of out of range", List.of(
                y -> y.stress(11, 100), y -> y.stress(1, -100), y -> y.stress(-1, 100)));
        CHECK.eachRefused(Check.INDEX, Yards::busy, "range: no joint ahead of out of range", List.of(
                y -> y.range(6, 30001), y -> y.range(-1, -2), y -> y.range(10, Integer.MIN_VALUE)));
        CHECK.eachRefused(Check.INDEX, Yards::busy, "place: below 0 ahead of out of range", List.of(
                y -> y.place(-1, -1), y -> y.place(5001, -1), y -> y.place(Integer.MIN_VALUE, Integer.MIN_VALUE)));
        CHECK.eachRefused(Check.INDEX, Yards::busy, "ofJoint: no joint ahead of out of range", List.of(
                y -> y.ofJoint(6, 3), y -> y.ofJoint(-1, -1), y -> y.ofJoint(10, Integer.MAX_VALUE)));
    }

    /** Two steps that can be undone behind a joint that was pinned and told of. */
    private static Stresswork stepped() {
        Stresswork yard = Yards.busy();
        yard.pin(3, false);
        yard.range(4, 200);
        yard.stress(10, -3);
        return yard;
    }

    private static void stepsAreLeft() {
        CHECK.eachRefused(Check.INDEX, ThrownEdgesTest::stepped, "no such number", List.of(
                y -> y.remove(6), y -> y.isRedundant(1), y -> y.balance(-1, 0), y -> y.isKept(11), y -> y.block(-1),
                y -> y.flex(-1, 0, true), y -> y.pin(6, true), y -> y.pin(-1, false)));
        CHECK.eachRefused(Check.ARGUMENT, ThrownEdgesTest::stepped, "out of range", List.of(
                y -> y.joint(51, 0), y -> y.member(5, 5, 0), y -> y.grow(5, 5, 0, 0), y -> y.split(10, 5, 0, 0),
                y -> y.stress(10, 100), y -> y.rankAt(-1), y -> y.places(-1), y -> y.range(4, -2)));
        Supplier<Stresswork> last = () -> {
            Stresswork yard = stepped();
            yard.joint(4, 4);
            return yard;
        };
        CHECK.refused(Check.STATE, last, Stresswork::undo, "undo");
        Stresswork yard = last.get();
        for (int i = 0; i < 5; i++) {
            CHECK.same("IllegalStateException", Observed.answer(yard, Stresswork::undo), "undo, again and again");
        }
        CHECK.same(-3, yard.stress(10, 0), "the stress of the last step's bar");
        CHECK.same(200, yard.range(4, 0), "the range of the step ahead");
    }

    private static void roomIsLeft() {
        Stresswork yard = Yards.loose(2);
        for (int i = 0; i < 45; i++) {
            int round = i;
            CHECK.same("IllegalArgumentException", Check.thrown(yard, y -> y.joint(51, round)), "a joint refused");
            CHECK.same("IllegalArgumentException", Check.thrown(yard, y -> y.member(0, 1, 3)), "a member refused");
            CHECK.same("IllegalArgumentException", Check.thrown(yard, y -> y.grow(0, 1, 0, 51)), "a growth refused");
        }
        CHECK.same(0, yard.member(0, 1, Stresswork.BAR), "the first member's number");
        for (int i = 0; i < 45; i++) {
            CHECK.same("IllegalStateException", Check.thrown(yard, y -> y.member(0, 1, 0)), "one more refused");
            CHECK.same("IndexOutOfBoundsException", Check.thrown(yard, y -> y.split(0, 2, 0, 0)), "a split refused");
        }
        CHECK.same(2, yard.grow(0, 1, 0, 0), "the next joint's number");
        CHECK.same(3, yard.joint(0, 0), "the one behind it");
        CHECK.same(3, yard.member(3, 0, Stresswork.BAR), "the next member's number");
    }
}
