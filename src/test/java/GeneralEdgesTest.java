import java.util.List;

/** Promises 14 to 18, and "In general" under Terms: each sentence that names an edge, on its own. */
public final class GeneralEdgesTest {
    private static final int NONE = Stresswork.NONE;
    private static final Check CHECK = new Check();

    private GeneralEdgesTest() {
    }

    public static void main(String[] args) {
        pinsAndPoints();
        ofEachJoints();
        ofSomeJoints();
        ofAllJoints();
        lookedAtByNumbers();
        keptRefused();
        firmByMember();
        firmWithBothEnds();
        blockOfNotKept();
        mostOfBlocks();
        blockRefused();
        rigidOrLacks();
        fewerThanTwo();
        globalOfFew();
        globalFromFour();
        anyOneTakenAway();
        withoutAnyTwo();
        globalOfWheels();
        CHECK.end("GeneralEdgesTest");
    }

    private static void same(Object due, Object got, String what) {
        CHECK.same(due, got, what);
    }

    private static String inGeneral(Stresswork yard, int members) {
        StringBuilder text = new StringBuilder();
        text.append(yard.kept()).append(' ').append(yard.lacks()).append(' ').append(yard.isGlobal());
        for (int i = 0; i < members; i++) {
            text.append(' ').append(yard.isKept(i)).append(' ').append(yard.block(i));
        }
        return text.toString();
    }

    private static void pinsAndPoints() {
        CHECK.sentence("Pins and points do not matter here.");
        Stresswork yard = Yards.hinged();
        String before = inGeneral(yard, 11);
        for (int joint = 0; joint < 6; joint++) {
            yard.move(joint, 50, 50);
        }
        same(before, inGeneral(yard, 11), "all at one point");
        Yards.pinAll(yard, 6);
        same(before, inGeneral(yard, 11), "all pinned");
        same(0, yard.rank(), "they matter elsewhere");
    }

    private static void ofEachJoints() {
        CHECK.sentence("of each k joints, 2 or more, at most 2 k less 3 of them are between joints of these");
        same(0, new Stresswork().kept(), "kept of none");
        same(0, Yards.loose(10).kept(), "kept without members");
        for (int count = 2; count <= 9; count++) {
            Stresswork yard = Yards.complete(count);
            same(2 * count - 3, yard.kept(), "kept of all between " + count);
            same(0, yard.lacks(), "lacks of all between " + count);
        }
        same(17, Yards.full().kept(), "kept of forty");
    }

    private static void ofSomeJoints() {
        CHECK.sentence("Some members are independent, if of each k joints, 2 or more, "
                + "at most 2 k less 3 of them are between joints of these.");
        Stresswork yard = Yards.complete(4);
        for (int i = 0; i < 5; i++) {
            yard.joint(i, i);
        }
        yard.member(8, 7, Stresswork.BAR);
        same(6, yard.kept(), "a sixth between four is one too many, also with joints to spare");
        same(false, yard.isKept(5), "the sixth between four");
        same(true, yard.isKept(6), "one between others");
        Stresswork two = Yards.hinged();
        // Each four of them may have five; between both there are eleven, but nine for six joints.
        same(9, two.kept(), "kept of two that have two joints in common");
        same(false, two.isKept(5), "the sixth of the first four");
        same(false, two.isKept(10), "the sixth of the second four");
    }

    private static void ofAllJoints() {
        CHECK.sentence("of each k joints, 2 or more, at most 2 k less 3 of them are between joints of these");
        for (int rim = 3; rim <= 9; rim++) {
            Stresswork wheel = Yards.wheel(rim);
            same(2 * rim - 1, wheel.kept(), "kept of a wheel of " + rim);
            for (int i = 0; i < 2 * rim; i++) {
                same(i < 2 * rim - 1, wheel.isKept(i), "member " + i + " of a wheel of " + rim);
            }
        }
    }

    private static void lookedAtByNumbers() {
        CHECK.sentence("Members are looked at by numbers; one is kept, if those kept ahead of it and it are independent.");
        Stresswork wheel = Yards.wheel(5);
        same(true, wheel.isKept(0), "the first");
        same(false, wheel.isKept(9), "the last");
        wheel.remove(0);
        same(true, wheel.isKept(9), "the last when the first is gone");
        int again = wheel.member(0, 1, Stresswork.BAR);
        same(true, wheel.isKept(9), "the last when the first is back by a later number");
        same(false, wheel.isKept(again), "that later number");
        same(9, wheel.kept(), "as many as before");
        wheel.remove(again);
        same(9, wheel.kept(), "without one that is not kept");
        wheel.remove(9);
        same(8, wheel.kept(), "without one that is kept");
    }

    private static void keptRefused() {
        CHECK.sentence("if there is no such member, or it is gone");
        CHECK.eachRefused(Check.INDEX, Yards::busy, "isKept", List.of(
                y -> y.isKept(-1), y -> y.isKept(1), y -> y.isKept(6), y -> y.isKept(11), y -> y.isKept(40),
                y -> y.isKept(Integer.MIN_VALUE), y -> y.isKept(Integer.MAX_VALUE)));
    }

    private static void firmByMember() {
        CHECK.sentence("Two joints are firm, if a member between them, one more, would not be independent of those kept, "
                + "or there is one that is kept.");
        Stresswork yard = Yards.square();
        for (int i = 0; i < 4; i++) {
            same(1 << i | 1 << (i + 1) % 4, yard.block(i), "a side of a square");
        }
        yard.member(2, 0, Stresswork.BAR);
        for (int i = 0; i < 5; i++) {
            same(15, yard.block(i), "with a diagonal, member " + i);
        }
        yard.remove(1);
        same(3, yard.block(0), "with a side less, one that hangs out");
        same(13, yard.block(2), "with a side less, one of the triangle");
    }

    private static void firmWithBothEnds() {
        CHECK.sentence("The block of a member is the set of joints that are firm with both its ends, and its ends.");
        same(3, Yards.complete(2).block(0), "of the only member");
        Stresswork yard = Yards.complete(3);
        yard.joint(-9, 9);
        yard.joint(-20, 3);
        yard.member(2, 3, Stresswork.BAR);
        yard.member(3, 4, Stresswork.BAR);
        yard.member(4, 2, Stresswork.BAR);
        for (int i = 0; i < 3; i++) {
            same(7, yard.block(i), "of the first triangle, firm with one end does not do");
            same(28, yard.block(3 + i), "of the second triangle");
        }
        yard.member(0, 4, Stresswork.BAR);
        for (int i = 0; i < 7; i++) {
            same(31, yard.block(i), "of both as one");
        }
        // Three triangles in a ring are firm with one another; none of them has a member to the others' far ends.
        Stresswork ring = Yards.loose(6);
        for (int i = 0; i < 3; i++) {
            int next = (i + 1) % 3;
            ring.member(i, next, Stresswork.BAR);
            ring.member(i, 3 + i, Stresswork.BAR);
            ring.member(3 + i, next, Stresswork.BAR);
        }
        for (int i = 0; i < 9; i++) {
            same(63, ring.block(i), "of a ring of triangles");
        }
    }

    private static void blockOfNotKept() {
        CHECK.sentence("The block of a member is the set of joints that are firm with both its ends, and its ends.");
        Stresswork yard = Yards.complete(4);
        yard.joint(40, 40);
        yard.member(0, 4, Stresswork.BAR);
        same(false, yard.isKept(5), "the last of four joints' members");
        same(15, yard.block(5), "its block");
        same(17, yard.block(6), "the block of one that hangs out");
    }

    private static void mostOfBlocks() {
        CHECK.sentence("Returns the joints: the sum of 2 to the power of each.");
        for (int rim = 3; rim <= 9; rim++) {
            Stresswork wheel = Yards.wheel(rim);
            for (int i = 0; i < 2 * rim; i++) {
                same((1 << rim + 1) - 1, wheel.block(i), "all of a wheel of " + rim);
            }
            wheel.remove(2 * rim - 1);
            same((1 << rim + 1) - 1, wheel.block(0), "all of a wheel of " + rim + " without one");
        }
        same(1023, Yards.full().block(39), "all of forty");
        Stresswork last = Yards.loose(10);
        last.member(9, 8, Stresswork.BAR);
        same(768, last.block(0), "the last two");
    }

    private static void blockRefused() {
        CHECK.sentence("if there is no such member, or it is gone");
        CHECK.eachRefused(Check.INDEX, Yards::busy, "block", List.of(
                y -> y.block(-1), y -> y.block(1), y -> y.block(6), y -> y.block(11), y -> y.block(40),
                y -> y.block(Integer.MIN_VALUE), y -> y.block(Integer.MAX_VALUE)));
    }

    private static void rigidOrLacks() {
        CHECK.sentence("The frame is rigid in general, if there are 2 joints or more, "
                + "and twice their number less 3 members are kept.");
        for (int count = 2; count <= 10; count++) {
            same(2 * count - 3, Yards.loose(count).lacks(), "lacks without members, of " + count);
        }
        Stresswork yard = Yards.wheel(9);
        same(0, yard.lacks(), "one more than needed");
        for (int i = 0; i < 18; i++) {
            yard.remove(i);
            same(i, yard.lacks(), "lacks when " + (i + 1) + " of 18 are gone");
        }
        same(0, Yards.full().lacks(), "many more than needed");
        same(1, Yards.square().lacks(), "one less than needed");
    }

    private static void fewerThanTwo() {
        CHECK.sentence("NONE with fewer than 2 joints");
        same(NONE, new Stresswork().lacks(), "of none");
        same(NONE, Yards.loose(1).lacks(), "of one");
        same(1, Yards.loose(2).lacks(), "of two");
        Stresswork undone = Yards.complete(2);
        undone.grow(0, 1, 1, 1);
        undone.undo();
        same(0, undone.lacks(), "of two that were three");
    }

    private static void globalOfFew() {
        CHECK.sentence("It is global, if each two joints have a member, also with fewer than two joints");
        same(true, new Stresswork().isGlobal(), "of none");
        same(true, Yards.loose(1).isGlobal(), "of one");
        for (int count = 2; count <= 9; count++) {
            same(false, Yards.loose(count).isGlobal(), "without members, of " + count);
            same(true, Yards.complete(count).isGlobal(), "with all members, of " + count);
        }
        Stresswork three = Yards.complete(3);
        three.remove(1);
        same(false, three.isGlobal(), "three joints without one member");
        three.member(2, 0, Stresswork.CABLE);
        same(true, three.isGlobal(), "three joints with it again");
        Stresswork pinned = Yards.loose(2);
        Yards.pinAll(pinned, 2);
        same(false, pinned.isGlobal(), "two that are pinned");
    }

    private static void globalFromFour() {
        CHECK.sentence("or if there are 4 joints or more, it is rigid in general");
        for (int without = 0; without < 6; without++) {
            Stresswork four = Yards.complete(4);
            four.remove(without);
            same(false, four.isGlobal(), "four joints without member " + without);
            same(0, four.lacks(), "which is rigid, without member " + without);
        }
        Stresswork wheel = Yards.wheel(5);
        wheel.remove(7);
        wheel.remove(9);
        same(false, wheel.isGlobal(), "a wheel without two");
        same(1, wheel.lacks(), "which is not rigid");
        same(true, Yards.full().isGlobal(), "forty members");
        Stresswork hanging = Yards.complete(9);
        hanging.joint(0, 0);
        same(false, hanging.isGlobal(), "a joint without members");
        hanging.member(9, 0, Stresswork.BAR);
        same(false, hanging.isGlobal(), "a joint with one");
        hanging.member(9, 1, Stresswork.BAR);
        same(false, hanging.isGlobal(), "a joint with two");
        hanging.member(9, 2, Stresswork.BAR);
        same(true, hanging.isGlobal(), "a joint with three");
    }

    private static void anyOneTakenAway() {
        CHECK.sentence("it would be so if any one member had been taken away");
        Stresswork prism = Yards.prism();
        same(0, prism.lacks(), "a prism is rigid");
        same(false, prism.isGlobal(), "but with none to spare");
        prism.member(0, 4, Stresswork.BAR);
        same(true, prism.isGlobal(), "a prism with one more");
        // Two of four, with three members between them, far from one another: those three are not to spare.
        Stresswork three = Yards.loose(8);
        for (int part = 0; part < 8; part += 4) {
            for (int i = 0; i < 4; i++) {
                for (int j = 0; j < i; j++) {
                    three.member(part + i, part + j, Stresswork.BAR);
                }
            }
        }
        for (int i = 0; i < 3; i++) {
            same(3 - i, three.lacks(), "two of four, members between them " + i);
            three.member(i, 4 + i, Stresswork.BAR);
        }
        same(0, three.lacks(), "two of four are rigid by three");
        same(false, three.isGlobal(), "but not global");
        three.member(3, 7, Stresswork.BAR);
        same(true, three.isGlobal(), "by four they are");
        three.remove(12);
        same(false, three.isGlobal(), "without the first of these, not");
    }

    private static void withoutAnyTwo() {
        CHECK.sentence("and without any two joints the others still hang together by members");
        same(false, Yards.hinged().isGlobal(), "two joints in common, the first two");
        for (int first = 0; first < 6; first++) {
            for (int second = first + 1; second < 6; second++) {
                same(false, hingedAt(first, second).isGlobal(), "in common " + first + " and " + second);
                same(0, hingedAt(first, second).lacks(), "rigid, in common " + first + " and " + second);
            }
        }
        Stresswork held = hingedAt(4, 5);
        held.member(1, 2, Stresswork.BAR);
        same(true, held.isGlobal(), "held by one member beside the two");
    }

    /** Two complete frames of four that have the two joints named in common. */
    private static Stresswork hingedAt(int first, int second) {
        Stresswork yard = Yards.loose(6);
        int[] part = new int[6];
        int others = 0;
        for (int i = 0; i < 6; i++) {
            if (i == first || i == second) {
                part[i] = 3;
            } else {
                part[i] = others < 2 ? 1 : 2;
                others++;
            }
        }
        for (int i = 0; i < 6; i++) {
            for (int j = i + 1; j < 6; j++) {
                if ((part[i] & part[j]) != 0) {
                    yard.member(i, j, Stresswork.BAR);
                }
            }
        }
        return yard;
    }

    private static void globalOfWheels() {
        CHECK.sentence("Tells whether the frame is global.");
        for (int rim = 3; rim <= 9; rim++) {
            for (int without = 0; without < 2 * rim; without++) {
                Stresswork wheel = Yards.wheel(rim);
                same(true, wheel.isGlobal(), "a wheel of " + rim);
                wheel.remove(without);
                same(false, wheel.isGlobal(), "a wheel of " + rim + " without member " + without);
            }
        }
    }
}
