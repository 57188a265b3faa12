import java.util.List;
import java.util.function.Consumer;
import java.util.function.Supplier;

/** Promises 19 to 21, and "Steps" under Terms: each sentence that names an edge, on its own. */
public final class StepEdgesTest {
    private static final int NONE = Stresswork.NONE;
    private static final String STATE = "IllegalStateException";
    private static final String INDEX = "IndexOutOfBoundsException";
    private static final Check CHECK = new Check();

    private StepEdgesTest() {
    }

    public static void main(String[] args) {
        growsByTwoBars();
        growPoints();
        growOfNoJoint();
        growJointRoom();
        growMemberRoom();
        splits();
        splitPoints();
        splitOfNone();
        splitAtItsEnds();
        splitJointRoom();
        splitMemberRoom();
        endsAsTold();
        barsToldToTheNewOne();
        lastStepNotUndone();
        noStep();
        jointIsTheLastOne();
        jointIsNotPinned();
        eachBarOfTheStep();
        noOtherMembers();
        whatDoesNotHinder();
        numberComesAgain();
        withoutARange();
        barsAreGone();
        splitMemberIsBack();
        unlessAnotherOne();
        splitBarIsGone();
        undoWithoutRoom();
        CHECK.end("StepEdgesTest");
    }

    private static void same(Object due, Object got, String what) {
        CHECK.same(due, got, what);
    }

    private static String undone(Stresswork yard) {
        return Observed.answer(yard, Stresswork::undo);
    }

    /** A square with a joint grown from 0 and 2: joint 4, bars 4 and 5. */
    private static Stresswork grown() {
        Stresswork yard = Yards.square();
        yard.grow(0, 2, 5, 5);
        return yard;
    }

    /** A square whose member 1, from 1 to 2, was split towards 3: joint 4, bars 4 to 6. */
    private static Stresswork parted() {
        Stresswork yard = Yards.square();
        yard.split(1, 3, 5, 5);
        return yard;
    }

    private static Supplier<Stresswork> after(Supplier<Stresswork> yard, Consumer<Stresswork> call) {
        return () -> {
            Stresswork made = yard.get();
            call.accept(made);
            return made;
        };
    }

    private static void growsByTwoBars() {
        CHECK.sentence("A step grows the frame by a joint with two bars, to two joints");
        Stresswork yard = Yards.loose(9);
        same(9, yard.grow(8, 0, 1, 2), "from the last and the first");
        same(2, yard.ofJoint(9, 2), "members of the new joint");
        same(768, yard.block(0), "the first bar");
        same(513, yard.block(1), "the second bar");
        same(INDEX, Observed.answer(yard, y -> y.block(2)), "a third bar");
        same(false, yard.pin(9, true), "whether it was pinned");
        Yards.pinAll(yard, 10);
        for (int bar = 0; bar < 2; bar++) {
            same(0, yard.stress(bar, 1), "no stress at first");
            same(true, yard.isProper(), "a bar above 0");
            yard.stress(bar, -1);
            same(true, yard.isProper(), "a bar below 0");
        }
        same(NONE, yard.range(9, 0), "no range at first");
    }

    private static void growPoints() {
        CHECK.sentence("-50 to 50");
        int[][] corners = {{-50, -50}, {-50, 50}, {50, -50}, {50, 50}};
        for (int[] corner : corners) {
            Stresswork yard = Yards.loose(2);
            same(2, yard.grow(0, 1, corner[0], corner[1]), "at a corner");
            same(corner[0], yard.ofJoint(2, 0), "x");
            same(corner[1], yard.ofJoint(2, 1), "y");
        }
        for (int far : new int[] {-51, 51, Integer.MIN_VALUE, Integer.MAX_VALUE}) {
            CHECK.eachRefused(Check.ARGUMENT, Yards::busy, "grow at " + far, List.of(
                    y -> y.grow(0, 1, far, 0), y -> y.grow(0, 1, 0, far)));
        }
    }

    private static void growOfNoJoint() {
        CHECK.sentence("if there is no such joint, of either");
        for (int joint : new int[] {-1, 6, 10, Integer.MIN_VALUE, Integer.MAX_VALUE}) {
            CHECK.eachRefused(Check.INDEX, Yards::busy, "joint " + joint, List.of(
                    y -> y.grow(joint, 0, 0, 0), y -> y.grow(0, joint, 0, 0), y -> y.grow(joint, joint, 0, 0)));
        }
        CHECK.refused(Check.INDEX, () -> Yards.loose(1), y -> y.grow(0, 1, 0, 0), "from the only one");
        CHECK.refused(Check.ARGUMENT, () -> Yards.loose(1), y -> y.grow(0, 0, 0, 0), "twice from the only one");
        CHECK.refused(Check.ARGUMENT, Yards::busy, y -> y.grow(5, 5, 0, 0), "twice from the last one");
        same(2, Yards.loose(2).grow(0, 1, 0, 0), "from the only two");
    }

    private static void growJointRoom() {
        CHECK.sentence("if there are 10 joints, or more than 38 members were set");
        same(9, Yards.loose(9).grow(0, 1, 0, 0), "grow with nine");
        CHECK.refused(Check.STATE, () -> Yards.loose(10), y -> y.grow(0, 1, 0, 0), "with ten");
        Stresswork chain = Yards.loose(2);
        for (int i = 2; i < 10; i++) {
            same(i, chain.grow(i - 2, i - 1, i, -i), "grown from the last two");
        }
        same(STATE, Observed.answer(chain, y -> y.grow(8, 9, 0, 0)), "grown once more");
        for (int i = 7; i >= 0; i--) {
            same(i, chain.undo(), "as many steps as there can be at once");
        }
        same(STATE, undone(chain), "undone once more");
    }

    private static void growMemberRoom() {
        CHECK.sentence("if there are 10 joints, or more than 38 members were set");
        same(4, Yards.used(37).grow(2, 3, 0, 0), "37 were set");
        Stresswork yard = Yards.used(38);
        same(4, yard.grow(2, 3, 0, 0), "38 were set");
        same(20, yard.block(38), "the bar number 38");
        same(24, yard.block(39), "the bar number 39");
        for (int count = 39; count <= 40; count++) {
            int set = count;
            CHECK.refused(Check.STATE, () -> Yards.used(set), y -> y.grow(2, 3, 0, 0), count + " were set");
            CHECK.refused(Check.STATE, after(() -> Yards.used(set), y -> y.remove(set - 1)),
                    y -> y.grow(2, 3, 0, 0), count + " were set, all are gone");
        }
    }

    private static void splits() {
        CHECK.sentence("or splits a member: it is gone, and there is a joint with three bars");
        for (int kind = 0; kind < 3; kind++) {
            Stresswork yard = Yards.loose(3);
            yard.member(0, 1, kind);
            yard.stress(0, kind == 2 ? -5 : 5);
            same(3, yard.split(0, 2, 1, 2), "a member of kind " + kind);
            CHECK.eachThrows(Check.INDEX, yard, "it is gone", Calls.withMember(0));
            same(3, yard.ofJoint(3, 2), "members of the new joint");
            same(3, yard.rank(), "three members are there");
            same(INDEX, Observed.answer(yard, y -> y.block(4)), "a fourth bar");
            same(NONE, yard.range(3, 0), "no range at first");
            same(false, yard.pin(3, true), "whether it was pinned");
            Yards.pinAll(yard, 4);
            for (int bar = 1; bar <= 3; bar++) {
                same(0, yard.stress(bar, 1), "no stress at first");
                same(true, yard.isProper(), "a bar above 0");
                yard.stress(bar, -1);
                same(true, yard.isProper(), "a bar below 0");
            }
        }
    }

    private static void splitPoints() {
        CHECK.sentence("-50 to 50");
        int[][] corners = {{-50, -50}, {-50, 50}, {50, -50}, {50, 50}};
        for (int[] corner : corners) {
            Stresswork yard = Yards.square();
            same(4, yard.split(0, 2, corner[0], corner[1]), "at a corner");
            same(corner[0], yard.ofJoint(4, 0), "x");
            same(corner[1], yard.ofJoint(4, 1), "y");
        }
        for (int far : new int[] {-51, 51, Integer.MIN_VALUE, Integer.MAX_VALUE}) {
            CHECK.eachRefused(Check.ARGUMENT, Yards::busy, "split at " + far, List.of(
                    y -> y.split(0, 2, far, 0), y -> y.split(0, 2, 0, far)));
        }
    }

    private static void splitOfNone() {
        CHECK.sentence("if there is no such member, or it is gone, or there is no such joint");
        for (int member : new int[] {-1, 1, 6, 11, 40, Integer.MIN_VALUE, Integer.MAX_VALUE}) {
            CHECK.refused(Check.INDEX, Yards::busy, y -> y.split(member, 2, 0, 0), "member " + member);
        }
        for (int joint : new int[] {-1, 6, 10, Integer.MIN_VALUE, Integer.MAX_VALUE}) {
            CHECK.refused(Check.INDEX, Yards::busy, y -> y.split(0, joint, 0, 0), "joint " + joint);
        }
        CHECK.refused(Check.INDEX, () -> Yards.complete(2), y -> y.split(0, 2, 0, 0), "without a third joint");
        same(3, Yards.complete(3).split(2, 0, 0, 0), "with a third joint alone");
        same(6, Yards.busy().split(10, 0, 0, 0), "the last member");
    }

    private static void splitAtItsEnds() {
        CHECK.sentence("a joint, neither of its ends");
        Stresswork yard = Yards.loose(4);
        yard.member(3, 0, Stresswork.BAR);
        Supplier<Stresswork> again = after(() -> Yards.loose(4), y -> y.member(3, 0, Stresswork.BAR));
        CHECK.refused(Check.ARGUMENT, again, y -> y.split(0, 3, 0, 0), "the first end");
        CHECK.refused(Check.ARGUMENT, again, y -> y.split(0, 0, 0, 0), "the second end");
        same(4, yard.split(0, 1, 0, 0), "beside its ends");
        // The third joint may be one that an end has a member to already.
        Stresswork triangle = Yards.complete(3);
        same(3, triangle.split(0, 2, 1, 1), "the third of a triangle");
        same(5, triangle.kept(), "its members then");
    }

    private static void splitJointRoom() {
        CHECK.sentence("if there are 10 joints, or more than 37 members were set");
        same(9, Yards.complete(9).split(35, 0, 0, 0), "with nine");
        CHECK.refused(Check.STATE, () -> Yards.usedOf(10, 1), y -> y.split(0, 2, 0, 0), "with ten");
        Stresswork chain = Yards.loose(3);
        chain.member(0, 1, Stresswork.BAR);
        for (int i = 3; i < 10; i++) {
            int member = i == 3 ? 0 : 3 * (i - 3) - 2;
            same(i, chain.split(member, 2, i, -i), "split once more");
            same(i - 2, chain.ofJoint(2, 2), "bars to the third");
        }
        for (int i = 6; i >= 0; i--) {
            same(i, chain.undo(), "undone one by one");
        }
        same(3, chain.block(0), "the first is back at last");
        same(1, chain.kept(), "alone");
    }

    private static void splitMemberRoom() {
        CHECK.sentence("if there are 10 joints, or more than 37 members were set");
        same(4, Yards.used(36).split(35, 2, 0, 0), "36 were set");
        Stresswork yard = Yards.used(37);
        same(4, yard.split(36, 2, 0, 0), "37 were set");
        same(17, yard.block(37), "the bar number 37");
        same(18, yard.block(38), "the bar number 38");
        same(20, yard.block(39), "the bar number 39");
        for (int count = 38; count <= 40; count++) {
            int set = count;
            CHECK.refused(Check.STATE, () -> Yards.used(set), y -> y.split(set - 1, 2, 0, 0), count + " were set");
        }
    }

    private static void endsAsTold() {
        CHECK.sentence("to its ends, as they were told, and to a third joint, in this order");
        for (int turned = 0; turned < 2; turned++) {
            Stresswork yard = Yards.loose(3);
            yard.member(turned == 0 ? 0 : 2, turned == 0 ? 2 : 0, Stresswork.BAR);
            yard.split(0, 1, 5, 5);
            same(turned == 0 ? 9 : 12, yard.block(1), "the first bar, turned " + turned);
            same(turned == 0 ? 12 : 9, yard.block(2), "the second bar, turned " + turned);
            same(10, yard.block(3), "the third bar, turned " + turned);
            yard.undo();
            yard.split(0, 1, 5, 5);
            same(turned == 0 ? 9 : 12, yard.block(4), "the first bar after an undo, turned " + turned);
        }
    }

    private static void barsToldToTheNewOne() {
        CHECK.sentence("A bar of a step is told from the joint that was there to the new one.");
        for (int bar = 0; bar < 2; bar++) {
            Stresswork yard = Yards.loose(3);
            yard.grow(0, 1, 5, 5);
            yard.split(bar, 2, 6, 6);
            same(16 + (1 << bar), yard.block(2), "from the joint that was there, growth's bar " + bar);
            same(24, yard.block(3), "to the new one, growth's bar " + bar);
            same(20, yard.block(4), "to the third, growth's bar " + bar);
        }
        int[] ends = {0, 1, 2};
        for (int bar = 1; bar <= 3; bar++) {
            Stresswork yard = Yards.loose(4);
            yard.member(0, 1, Stresswork.BAR);
            yard.split(0, 2, 5, 5);
            yard.split(bar, 3, 6, 6);
            same(32 + (1 << ends[bar - 1]), yard.block(4), "from the joint that was there, split's bar " + bar);
            same(48, yard.block(5), "to the new one, split's bar " + bar);
            same(40, yard.block(6), "to the third, split's bar " + bar);
        }
    }

    private static void lastStepNotUndone() {
        CHECK.sentence("Undoes the last step that was not undone.");
        Stresswork yard = Yards.square();
        yard.grow(0, 1, 5, 5);
        yard.split(0, 2, 6, 6);
        yard.grow(4, 5, 7, 7);
        same(2, yard.undo(), "the third of three");
        same(6, yard.grow(0, 5, 8, 8), "another one");
        same(2, yard.undo(), "that one");
        same(1, yard.undo(), "the second of three");
        same(true, yard.isKept(0), "what it split");
        same(0, yard.undo(), "the first of three");
        same(4, yard.kept(), "the square is left");
        same(STATE, undone(yard), "no step is left");
    }

    private static void noStep() {
        CHECK.sentence("if there is none, or it cannot be undone");
        CHECK.refused(Check.STATE, Stresswork::new, Stresswork::undo, "of a new object");
        CHECK.refused(Check.STATE, Yards::braced, Stresswork::undo, "of what was set without steps");
        CHECK.refused(Check.STATE, after(StepEdgesTest::grown, Stresswork::undo), Stresswork::undo, "all undone");
        // A joint with two bars that was set by hand is no step.
        CHECK.refused(Check.STATE, () -> Yards.complete(3), Stresswork::undo, "of a triangle set by hand");
    }

    private static void jointIsTheLastOne() {
        CHECK.sentence("if its joint is the last one");
        CHECK.refused(Check.STATE, after(StepEdgesTest::grown, y -> y.joint(0, 0)), Stresswork::undo, "growth");
        CHECK.refused(Check.STATE, after(StepEdgesTest::parted, y -> y.joint(0, 0)), Stresswork::undo, "split");
        Stresswork yard = grown();
        yard.joint(0, 0);
        yard.grow(0, 1, 1, 1);
        same(1, yard.undo(), "a later step behind that joint");
        same(STATE, undone(yard), "the step ahead of that joint");
        Stresswork ten = Yards.loose(9);
        ten.grow(0, 1, 1, 1);
        same(0, ten.undo(), "the tenth joint is the last one");
    }

    private static void jointIsNotPinned() {
        CHECK.sentence("is not pinned");
        CHECK.refused(Check.STATE, after(StepEdgesTest::grown, y -> y.pin(4, true)), Stresswork::undo, "growth");
        CHECK.refused(Check.STATE, after(StepEdgesTest::parted, y -> y.pin(4, true)), Stresswork::undo, "split");
        Stresswork yard = grown();
        Yards.pinAll(yard, 5);
        same(STATE, undone(yard), "all pinned");
        yard.pin(4, false);
        same(0, yard.undo(), "all others pinned");
    }

    private static void eachBarOfTheStep() {
        CHECK.sentence("and has the bars of the step");
        int[][] ends = {{0, 4}, {2, 4}};
        for (int i = 0; i < 2; i++) {
            int bar = 4 + i;
            int from = ends[i][0];
            Supplier<Stresswork> without = after(StepEdgesTest::grown, y -> y.remove(bar));
            CHECK.refused(Check.STATE, without, Stresswork::undo, "growth without bar " + bar);
            CHECK.refused(Check.STATE, after(without, y -> y.member(from, 4, 0)), Stresswork::undo,
                    "growth with bar " + bar + " set again, by another number");
            CHECK.refused(Check.STATE, after(without, y -> y.member(1, 4, 0)), Stresswork::undo,
                    "growth with another member for bar " + bar);
        }
        int[] from = {1, 2, 3};
        for (int i = 0; i < 3; i++) {
            int bar = 4 + i;
            int end = from[i];
            Supplier<Stresswork> without = after(StepEdgesTest::parted, y -> y.remove(bar));
            CHECK.refused(Check.STATE, without, Stresswork::undo, "split without bar " + bar);
            CHECK.refused(Check.STATE, after(without, y -> y.member(end, 4, 0)), Stresswork::undo,
                    "split with bar " + bar + " set again, by another number");
            CHECK.refused(Check.STATE, after(without, y -> y.member(0, 4, 0)), Stresswork::undo,
                    "split with another member for bar " + bar);
        }
        CHECK.refused(Check.STATE, after(StepEdgesTest::grown, y -> {
            y.remove(4);
            y.remove(5);
        }), Stresswork::undo, "growth without both");
    }

    private static void noOtherMembers() {
        CHECK.sentence("and no other members");
        for (int joint : new int[] {1, 3}) {
            CHECK.refused(Check.STATE, after(StepEdgesTest::grown, y -> y.member(4, joint, 1)), Stresswork::undo,
                    "growth with a member to " + joint);
        }
        CHECK.refused(Check.STATE, after(StepEdgesTest::parted, y -> y.member(0, 4, 2)), Stresswork::undo,
                "split with a member from 0");
        Stresswork yard = grown();
        int more = yard.member(1, 4, Stresswork.BAR);
        yard.remove(more);
        same(0, yard.undo(), "a member more that is gone");
        Stresswork stepped = grown();
        stepped.grow(4, 1, 9, 9);
        stepped.pin(5, true);
        same(STATE, undone(stepped), "a later step's bar, its joint pinned");
        stepped.pin(5, false);
        same(1, stepped.undo(), "the later step");
        same(0, stepped.undo(), "then the one ahead of it");
    }

    private static void whatDoesNotHinder() {
        CHECK.sentence("The last step can be undone");
        Stresswork yard = parted();
        yard.move(4, -50, 50);
        yard.range(4, 30000);
        yard.stress(4, -99);
        yard.pin(4, true);
        yard.pin(4, false);
        yard.member(0, 2, Stresswork.CABLE);
        yard.remove(0);
        yard.pin(2, true);
        same(0, yard.undo(), "after all that is not told to hinder it");
        same(4, yard.kept(), "the members that are left");
    }

    private static void numberComesAgain() {
        CHECK.sentence("the joint is there no more, its number comes again for another one");
        Stresswork yard = grown();
        yard.undo();
        CHECK.eachThrows(Check.INDEX, yard, "the joint that was undone", Calls.withJoint(4));
        same(4, yard.joint(7, -7), "a joint");
        same(7, yard.ofJoint(4, 0), "its x");
        same(-7, yard.ofJoint(4, 1), "its y");
        same(0, yard.ofJoint(4, 2), "its members");
        same(false, yard.pin(4, false), "whether it is pinned");
        same(STATE, undone(yard), "the step is undone already");
        Stresswork other = grown();
        other.undo();
        same(4, other.grow(1, 3, 8, -8), "a growth's joint");
        same(-8, other.ofJoint(4, 1), "its y");
        same(18, other.block(6), "its first bar");
        same(0, other.undo(), "undone too");
        same(4, other.split(0, 2, 9, -9), "a split's joint");
        same(9, other.ofJoint(4, 0), "its x");
        same(3, other.ofJoint(4, 2), "its members");
    }

    private static void withoutARange() {
        CHECK.sentence("its number comes again for another one, without a range");
        Stresswork yard = grown();
        yard.range(4, 0);
        same(1, yard.places(0), "with a range");
        yard.undo();
        same(14641, yard.places(0), "without the joint");
        yard.joint(5, 5);
        same(14641, yard.places(0), "with another joint");
        same(NONE, yard.range(4, 25), "the range of a joint");
        Stresswork stepped = grown();
        stepped.range(4, 9);
        stepped.undo();
        stepped.grow(1, 3, 5, 5);
        same(NONE, stepped.range(4, 9), "the range of a growth's joint");
        stepped.undo();
        stepped.split(0, 2, 5, 5);
        same(NONE, stepped.range(4, 9), "the range of a split's joint");
    }

    private static void barsAreGone() {
        CHECK.sentence("its bars are gone");
        Stresswork yard = grown();
        yard.undo();
        CHECK.eachThrows(Check.INDEX, yard, "the first bar", Calls.withMember(4));
        CHECK.eachThrows(Check.INDEX, yard, "the second bar", Calls.withMember(5));
        same(2, yard.ofJoint(0, 2), "members of the first end");
        same(2, yard.ofJoint(2, 2), "members of the second end");
        same(6, yard.member(0, 2, Stresswork.BAR), "their numbers do not come again");
        Stresswork split = parted();
        split.undo();
        for (int bar = 4; bar <= 6; bar++) {
            CHECK.eachThrows(Check.INDEX, split, "bar " + bar + " of a split", Calls.withMember(bar));
        }
        for (int joint = 0; joint < 4; joint++) {
            same(2, split.ofJoint(joint, 2), "members of joint " + joint);
        }
        same(7, split.member(0, 2, Stresswork.BAR), "the numbers of a split's bars do not come again");
    }

    private static void splitMemberIsBack() {
        CHECK.sentence("and a member that was split is back, by its number");
        for (int kind = 0; kind < 3; kind++) {
            Stresswork yard = Yards.loose(4);
            yard.member(3, 1, kind);
            yard.stress(0, 42);
            yard.split(0, 2, 5, 5);
            same(0, yard.undo(), "of kind " + kind);
            same(10, yard.block(0), "its ends");
            same(42, yard.stress(0, 1), "its stress, as it was told");
            Yards.pinAll(yard, 4);
            same(kind != 2, yard.isProper(), "kind " + kind + " above 0");
            yard.stress(0, -1);
            same(kind != 1, yard.isProper(), "kind " + kind + " below 0");
            same(0, yard.remove(0), "it can be taken away");
        }
        Stresswork grown = grown();
        grown.undo();
        same(INDEX, Observed.answer(grown, y -> y.isKept(4)), "a growth split none");
    }

    private static void unlessAnotherOne() {
        CHECK.sentence("unless both its ends have another one by then");
        for (int kind = 0; kind < 3; kind++) {
            for (int from = 1; from <= 2; from++) {
                Stresswork yard = parted();
                int another = yard.member(from, 3 - from, kind);
                same(0, yard.undo(), "another of kind " + kind + " from " + from);
                CHECK.eachThrows(Check.INDEX, yard, "what was split", Calls.withMember(1));
                same(2, yard.ofJoint(1, 2), "members of an end");
                same(3, yard.remove(another), "the other one is there");
                CHECK.eachThrows(Check.INDEX, yard, "what was split, for good", Calls.withMember(1));
                same(STATE, undone(yard), "no step is left");
            }
        }
        Stresswork gone = parted();
        gone.remove(gone.member(1, 2, Stresswork.BAR));
        same(0, gone.undo(), "another one that is gone by then");
        same(6, gone.block(1), "what was split is back");
        Stresswork one = parted();
        one.member(1, 3, Stresswork.BAR);
        one.member(0, 2, Stresswork.BAR);
        same(0, one.undo(), "others at one of its ends each");
        same(true, one.isKept(1), "what was split is back beside them");
    }

    private static void splitBarIsGone() {
        CHECK.sentence("if there is none, or it cannot be undone");
        Stresswork yard = Yards.loose(3);
        yard.grow(0, 1, 5, 5);
        yard.split(1, 2, 6, 6);
        same(1, yard.undo(), "a split of a step's bar");
        same(0, yard.undo(), "the step, its bar being back");
        Stresswork lost = Yards.loose(3);
        lost.grow(0, 1, 5, 5);
        lost.split(0, 2, 6, 6);
        int another = lost.member(3, 0, Stresswork.BAR);
        same(1, lost.undo(), "a split of a step's bar whose ends have another one");
        same(STATE, undone(lost), "the step, its bar being gone");
        lost.remove(another);
        same(STATE, undone(lost), "the step, that other one gone too");
        same(1, lost.kept(), "a refused undo leaves the other bar");
        Stresswork blocked = grown();
        blocked.joint(0, 0);
        same(STATE, undone(blocked), "refused");
        same(STATE, undone(blocked), "refused again: the step is there still");
        same(2, blocked.ofJoint(4, 2), "with its bars");
    }

    private static void undoWithoutRoom() {
        CHECK.sentence("a member that was split is back, by its number");
        Stresswork yard = Yards.used(37);
        yard.split(36, 2, 5, 5);
        same(STATE, Observed.answer(yard, y -> y.member(2, 3, 0)), "forty were set");
        same(0, yard.undo(), "undone where forty were set");
        same(3, yard.block(36), "it is back where forty were set");
        same(STATE, Observed.answer(yard, y -> y.member(2, 3, 0)), "forty were set still");
        same(4, yard.joint(0, 0), "a joint is set still");
        Stresswork ten = Yards.loose(9);
        ten.member(0, 1, Stresswork.BAR);
        ten.split(0, 2, 5, 5);
        same(STATE, Observed.answer(ten, y -> y.joint(0, 0)), "ten joints");
        same(0, ten.undo(), "undone with ten joints");
        same(9, ten.joint(0, 0), "the tenth again");
        same(STATE, Observed.answer(ten, y -> y.joint(0, 0)), "ten joints again");
    }
}
