import java.util.List;

/** Promises 22 to 25, and "Told stresses" under Terms: each sentence that names an edge, on its own. */
public final class StressEdgesTest {
    private static final Check CHECK = new Check();

    private StressEdgesTest() {
    }

    public static void main(String[] args) {
        told();
        zeroAtFirst();
        theOneBefore();
        toldOfNone();
        balancedInX();
        balancedInY();
        exactSums();
        notPinnedOnes();
        setOfJoints();
        allBalanced();
        noCableBelow();
        noStrutAbove();
        someNotZero();
        matrixOfFew();
        matrixDiagonal();
        matrixOfMost();
        matrixByThePrime();
        CHECK.end("StressEdgesTest");
    }

    private static void same(Object due, Object got, String what) {
        CHECK.same(due, got, what);
    }

    private static void told() {
        CHECK.sentence("Each member has a number that is told, -99 to 99");
        Stresswork yard = Yards.full();
        for (int stress : new int[] {-99, 99, -98, 98, 0}) {
            yard.stress(39, stress);
            same(stress, yard.stress(39, stress), "told " + stress);
            same(0, yard.stress(38, 0), "the member ahead");
        }
        for (int far : new int[] {-100, 100, Integer.MIN_VALUE, Integer.MAX_VALUE}) {
            CHECK.eachRefused(Check.ARGUMENT, Yards::busy, "told " + far, List.of(
                    y -> y.stress(0, far), y -> y.stress(4, far), y -> y.stress(10, far)));
        }
    }

    private static void zeroAtFirst() {
        CHECK.sentence("0 at first");
        Stresswork yard = Yards.loose(3);
        for (int kind = 0; kind < 3; kind++) {
            int member = yard.member(0, 1, kind);
            same(0, yard.stress(member, 50), "kind " + kind);
            yard.remove(member);
        }
        int bar = 3;
        yard.grow(0, 1, 5, 5);
        same(0, yard.stress(bar, 7), "a growth's first bar");
        same(0, yard.stress(bar + 1, 7), "a growth's second bar");
        yard.split(bar, 2, 6, 6);
        for (int i = 0; i < 3; i++) {
            same(0, yard.stress(5 + i, 7), "a split's bar " + i);
        }
    }

    private static void theOneBefore() {
        CHECK.sentence("Returns the one before.");
        Stresswork yard = Yards.complete(2);
        int before = 0;
        for (int stress = -99; stress <= 99; stress++) {
            same(before, yard.stress(0, stress), "ahead of " + stress);
            before = stress;
        }
        yard.pin(0, true);
        yard.move(1, 0, -40);
        same(99, yard.stress(0, 0), "pins and moves leave it");
    }

    private static void toldOfNone() {
        CHECK.sentence("if there is no such member, or it is gone");
        CHECK.eachRefused(Check.INDEX, Yards::busy, "stress", List.of(
                y -> y.stress(-1, 0), y -> y.stress(1, 0), y -> y.stress(6, 0), y -> y.stress(11, 0),
                y -> y.stress(40, 0), y -> y.stress(Integer.MIN_VALUE, 0), y -> y.stress(Integer.MAX_VALUE, 0),
                y -> y.stress(1, 100), y -> y.stress(-1, -100)));
    }

    /** Joint 1 between 0 and 2 on a line, members 0 and 1 to them. */
    private static Stresswork line(int dx, int dy) {
        Stresswork yard = Yards.loose(3);
        yard.move(0, -3 * dx, -3 * dy);
        yard.move(1, 0, 0);
        yard.move(2, 2 * dx, 2 * dy);
        yard.member(0, 1, Stresswork.BAR);
        yard.member(2, 1, Stresswork.BAR);
        return yard;
    }

    private static void balancedInX() {
        CHECK.sentence("if the sum over its members, each number times the x of the other joint "
                + "less that of this one, is 0");
        balancedAlong(line(1, 0));
    }

    private static void balancedAlong(Stresswork yard) {
        same(0, yard.unbalanced(), "nothing is told");
        yard.stress(0, 2);
        same(3, yard.unbalanced(), "one is told");
        yard.stress(1, 3);
        same(5, yard.unbalanced(), "the middle is balanced, the ends are not");
        yard.stress(1, 2);
        same(7, yard.unbalanced(), "the middle is off by the least");
        yard.stress(1, -3);
        same(7, yard.unbalanced(), "the other way round");
    }

    private static void balancedInY() {
        CHECK.sentence("and likewise for y");
        balancedAlong(line(0, 1));
        Stresswork bent = line(1, 1);
        bent.stress(0, 2);
        bent.stress(1, 3);
        same(5, bent.unbalanced(), "both x and y");
        bent.move(2, 2, 3);
        same(7, bent.unbalanced(), "x alone is balanced");
        bent.move(2, 3, 2);
        same(7, bent.unbalanced(), "y alone is balanced");
    }

    private static void exactSums() {
        CHECK.sentence("is 0");
        // Nine members at joint 0, all as long and as tense as can be: far from where numbers wrap around.
        Stresswork yard = Yards.complete(9);
        for (int joint = 0; joint < 9; joint++) {
            yard.move(joint, joint == 0 ? -50 : 50, joint == 0 ? -50 : 50);
        }
        for (int member = 0; member < 8; member++) {
            yard.stress(member, 99);
        }
        same(511, yard.unbalanced(), "as much as can be");
        for (int member = 0; member < 8; member++) {
            yard.stress(member, member % 2 == 0 ? 99 : -99);
        }
        same(510, yard.unbalanced(), "half of them against the others, at joint 0");
    }

    private static void notPinnedOnes() {
        CHECK.sentence("Returns the set of joints that are not pinned and not balanced.");
        Stresswork yard = line(1, 0);
        yard.stress(0, 5);
        yard.stress(1, 5);
        same(7, yard.unbalanced(), "none is pinned");
        yard.pin(2, true);
        same(3, yard.unbalanced(), "the last is pinned");
        yard.pin(0, true);
        same(2, yard.unbalanced(), "the ends are pinned");
        yard.pin(1, true);
        same(0, yard.unbalanced(), "all are pinned");
        yard.pin(2, false);
        same(4, yard.unbalanced(), "the last is not pinned again");
    }

    private static void setOfJoints() {
        CHECK.sentence("Returns the set of joints");
        same(0, new Stresswork().unbalanced(), "of none");
        same(0, Yards.loose(10).unbalanced(), "of ten without members");
        Stresswork wheel = Yards.wheel(9);
        same(0, wheel.unbalanced(), "of ten, nothing told");
        for (int i = 0; i < 9; i++) {
            wheel.stress(i, 1 + i);
        }
        same(1023, wheel.unbalanced(), "all of ten");
        Stresswork last = Yards.loose(10);
        last.member(9, 8, Stresswork.BAR);
        last.stress(0, 1);
        same(768, last.unbalanced(), "the last two of ten");
        last.remove(0);
        same(0, last.unbalanced(), "the member is gone");
    }

    /** A square whose sides are of one kind and whose diagonals are of the other; balanced, 4 and -4. */
    private static Stresswork tense(int sides, int diagonals, int stress) {
        Stresswork yard = Yards.square();
        for (int i = 0; i < 4; i++) {
            yard.remove(i);
        }
        for (int i = 0; i < 4; i++) {
            yard.stress(yard.member(i, (i + 1) % 4, sides), stress);
        }
        yard.stress(yard.member(0, 2, diagonals), -stress);
        yard.stress(yard.member(1, 3, diagonals), -stress);
        return yard;
    }

    private static void allBalanced() {
        CHECK.sentence("The stress is proper, if all joints that are not pinned are balanced");
        Stresswork yard = tense(Stresswork.CABLE, Stresswork.STRUT, 4);
        same(true, yard.isProper(), "balanced");
        yard.stress(9, -5);
        same(false, yard.isProper(), "two joints are not");
        yard.pin(1, true);
        same(false, yard.isProper(), "one of them is not, the other is pinned");
        yard.pin(3, true);
        same(true, yard.isProper(), "both are pinned");
        yard.pin(1, false);
        same(false, yard.isProper(), "the other one is not");
    }

    private static void noCableBelow() {
        CHECK.sentence("no CABLE has one below 0");
        same(true, tense(Stresswork.CABLE, Stresswork.BAR, 1).isProper(), "cables at 1");
        same(false, tense(Stresswork.CABLE, Stresswork.BAR, -1).isProper(), "cables at -1");
        same(true, tense(Stresswork.BAR, Stresswork.CABLE, -99).isProper(), "cables at 99");
        same(false, tense(Stresswork.BAR, Stresswork.CABLE, 99).isProper(), "cables at -99");
        Stresswork yard = tense(Stresswork.BAR, Stresswork.BAR, 3);
        yard.joint(30, 30);
        int cable = yard.member(2, 4, Stresswork.CABLE);
        same(true, yard.isProper(), "a cable at 0");
        yard.pin(2, true);
        yard.pin(4, true);
        yard.stress(cable, -1);
        same(false, yard.isProper(), "one cable below 0, between pins");
        yard.remove(cable);
        same(true, yard.isProper(), "that cable is gone");
    }

    private static void noStrutAbove() {
        CHECK.sentence("no STRUT one above 0");
        same(true, tense(Stresswork.STRUT, Stresswork.BAR, -1).isProper(), "struts at -1");
        same(false, tense(Stresswork.STRUT, Stresswork.BAR, 1).isProper(), "struts at 1");
        same(true, tense(Stresswork.BAR, Stresswork.STRUT, 99).isProper(), "struts at -99");
        same(false, tense(Stresswork.BAR, Stresswork.STRUT, -99).isProper(), "struts at 99");
        Stresswork yard = tense(Stresswork.BAR, Stresswork.BAR, 3);
        yard.joint(30, 30);
        int strut = yard.member(2, 4, Stresswork.STRUT);
        same(true, yard.isProper(), "a strut at 0");
        yard.pin(2, true);
        yard.pin(4, true);
        yard.stress(strut, 1);
        same(false, yard.isProper(), "one strut above 0, between pins");
        yard.remove(strut);
        same(true, yard.isProper(), "that strut is gone");
        for (int stress : new int[] {-4, 4}) {
            same(true, tense(Stresswork.BAR, Stresswork.BAR, stress).isProper(), "bars either way, " + stress);
        }
    }

    private static void someNotZero() {
        CHECK.sentence("and some member has one that is not 0");
        same(false, new Stresswork().isProper(), "without joints");
        same(false, Yards.loose(10).isProper(), "without members");
        same(false, Yards.full().isProper(), "forty members at 0");
        for (int kind = 0; kind < 3; kind++) {
            Stresswork yard = Yards.loose(2);
            yard.member(0, 1, kind);
            Yards.pinAll(yard, 2);
            same(false, yard.isProper(), "one at 0, of kind " + kind);
            yard.stress(0, kind == Stresswork.STRUT ? -1 : 1);
            same(true, yard.isProper(), "one that is not, of kind " + kind);
            yard.stress(0, 0);
            same(false, yard.isProper(), "0 again, of kind " + kind);
        }
        Stresswork last = Yards.full();
        Yards.pinAll(last, 10);
        last.stress(39, 1);
        same(true, last.isProper(), "the last of forty");
        last.remove(39);
        same(false, last.isProper(), "the last of forty is gone");
    }

    private static void matrixOfFew() {
        CHECK.sentence("The stress matrix has a row and a column for each joint");
        same(0, new Stresswork().matrix(), "of none");
        same(0, Yards.loose(1).matrix(), "of one");
        same(0, Yards.loose(10).matrix(), "of ten without members");
        Stresswork rod = Yards.complete(2);
        same(0, rod.matrix(), "of a rod without stress");
        for (int stress : new int[] {-99, -1, 1, 99}) {
            rod.stress(0, stress);
            same(1, rod.matrix(), "of a rod at " + stress);
        }
        Yards.pinAll(rod, 2);
        rod.move(1, 0, -40);
        same(1, rod.matrix(), "pins and points do not matter");
        rod.remove(0);
        same(0, rod.matrix(), "of a rod that is gone");
    }

    private static void matrixDiagonal() {
        CHECK.sentence("between two joints less than nothing of the stress of their member, 0 without one; "
                + "on the diagonal the sum of all stresses of the joint's members");
        Stresswork path = Yards.loose(3);
        path.member(0, 1, Stresswork.BAR);
        path.member(1, 2, Stresswork.BAR);
        path.stress(0, 5);
        path.stress(1, -5);
        // 5 -5 0, -5 0 5, 0 5 -5: the middle's sum is 0.
        same(2, path.matrix(), "a sum of 0 on the diagonal");
        Stresswork triangle = Yards.complete(3);
        for (int i = 0; i < 3; i++) {
            triangle.stress(i, 1);
        }
        same(2, triangle.matrix(), "a triangle of ones");
        triangle.stress(0, 2);
        triangle.stress(1, 2);
        triangle.stress(2, -1);
        same(1, triangle.matrix(), "two twos and one less than nothing");
    }

    private static void matrixOfMost() {
        CHECK.sentence("Returns the rank of the stress matrix.");
        for (int count = 2; count <= 9; count++) {
            Stresswork yard = Yards.complete(count);
            int members = count * (count - 1) / 2;
            for (int i = 0; i < members; i++) {
                yard.stress(i, 99);
            }
            same(count - 1, yard.matrix(), "all between " + count);
        }
        Stresswork wheel = Yards.wheel(9);
        for (int i = 0; i < 9; i++) {
            same(i, wheel.matrix(), "of ten, spokes told " + i);
            wheel.stress(i, i % 2 == 0 ? -1 : 1);
        }
        same(9, wheel.matrix(), "as much as ten can have");
    }

    private static void matrixByThePrime() {
        CHECK.sentence("Its rank is reckoned modulo the same prime.");
        // The trees' sum of each is 1000003: the rank is 3 exactly, but 2 by the prime.
        int[][] told = {{24, 71, 67, 9, 80, 11}, {37, 41, 45, 9, 72, 44}, {76, 91, 94, 15, 3, 3}, {65, 9, 38, 4, 56, 91}};
        for (int[] stresses : told) {
            Stresswork yard = Yards.complete(4);
            for (int i = 0; i < 6; i++) {
                yard.stress(i, stresses[i]);
            }
            same(2, yard.matrix(), "by the prime");
            yard.stress(5, stresses[5] - 1);
            same(3, yard.matrix(), "one less");
        }
    }
}
