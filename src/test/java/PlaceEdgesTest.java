import java.util.List;

/** Promises 26 to 31, and "Chains, sheets, places" under Terms: each sentence that names an edge, on its own. */
public final class PlaceEdgesTest {
    private static final int NONE = Stresswork.NONE;
    private static final int ALL = 121 * 121;
    private static final Check CHECK = new Check();

    private PlaceEdgesTest() {
    }

    public static void main(String[] args) {
        atMostTheirSum();
        atLeastTheRest();
        linksInRange();
        linksOutOfRange();
        round();
        even();
        mountainsAndValleys();
        firstThatIsNotSo();
        foldsInRange();
        foldsOutOfRange();
        ranges();
        rangesRefused();
        squareToldForAJoint();
        wholePoints();
        errorAboveOrBelow();
        whereThatIsNow();
        noneFits();
        errors();
        byRisingXThenY();
        notSoManyPlaces();
        placeRefused();
        numbersOfAJoint();
        numbersRefused();
        CHECK.end("PlaceEdgesTest");
    }

    private static void same(Object due, Object got, String what) {
        CHECK.same(due, got, what);
    }

    private static void chain(boolean due, int[] links, int distance) {
        int[][] orders = {{0, 1, 2}, {0, 2, 1}, {1, 0, 2}, {1, 2, 0}, {2, 0, 1}, {2, 1, 0}};
        Stresswork yard = new Stresswork();
        for (int[] order : orders) {
            int a = links[order[0]];
            int b = links[order[1]];
            int c = links[order[2]];
            same(due, yard.reaches(a, b, c, distance), "links " + a + " " + b + " " + c + " to " + distance);
        }
    }

    private static void atMostTheirSum() {
        CHECK.sentence("A chain of three links reaches a distance, if it is at most their sum");
        chain(true, new int[] {3, 4, 5}, 12);
        chain(false, new int[] {3, 4, 5}, 13);
        chain(true, new int[] {0, 0, 1}, 1);
        chain(false, new int[] {0, 0, 1}, 2);
        chain(true, new int[] {0, 0, 0}, 0);
        chain(false, new int[] {0, 0, 0}, 1);
        chain(true, new int[] {1000000, 1000000, 1000000}, 3000000);
        chain(true, new int[] {1000000, 1000000, 999999}, 2999999);
        chain(false, new int[] {1000000, 1000000, 999999}, 3000000);
    }

    private static void atLeastTheRest() {
        CHECK.sentence("and at least the longest less the two others, if that is above 0");
        chain(true, new int[] {2, 3, 10}, 5);
        chain(false, new int[] {2, 3, 10}, 4);
        chain(false, new int[] {2, 3, 10}, 0);
        chain(true, new int[] {2, 3, 6}, 1);
        chain(false, new int[] {2, 3, 6}, 0);
        chain(true, new int[] {2, 3, 5}, 0);
        chain(true, new int[] {2, 3, 4}, 0);
        chain(false, new int[] {0, 0, 7}, 6);
        chain(true, new int[] {0, 0, 7}, 7);
        chain(false, new int[] {0, 0, 7}, 8);
        chain(true, new int[] {0, 7, 7}, 0);
        chain(true, new int[] {0, 0, 1000000}, 1000000);
        chain(false, new int[] {0, 0, 1000000}, 999999);
        chain(false, new int[] {1000000, 0, 0}, 3000000);
    }

    private static void linksInRange() {
        CHECK.sentence("0 to 1000000: a link");
        chain(true, new int[] {0, 1000000, 1000000}, 0);
        chain(true, new int[] {0, 1000000, 1000000}, 2000000);
        chain(false, new int[] {0, 1000000, 1000000}, 2000001);
        chain(true, new int[] {1, 999999, 1000000}, 0);
        chain(false, new int[] {0, 999999, 1000000}, 0);
    }

    private static void linksOutOfRange() {
        CHECK.sentence("if one of them is out of range");
        for (int far : new int[] {-1, 1000001, Integer.MIN_VALUE, Integer.MAX_VALUE}) {
            CHECK.eachRefused(Check.ARGUMENT, Yards::busy, "a link of " + far, List.of(
                    y -> y.reaches(far, 5, 5, 5), y -> y.reaches(5, far, 5, 5), y -> y.reaches(5, 5, far, 5)));
        }
        for (int far : new int[] {-1, 3000001, Integer.MIN_VALUE, Integer.MAX_VALUE}) {
            CHECK.refused(Check.ARGUMENT, Yards::busy, y -> y.reaches(5, 5, 5, far), "a distance of " + far);
        }
    }

    private static void round() {
        CHECK.sentence("They fold flat, if the angles have 360 together");
        Stresswork yard = new Stresswork();
        same(Stresswork.FLAT, yard.folds(90, 90, 90, 90, 1), "360");
        for (int off = -1; off <= 1; off += 2) {
            same(Stresswork.NOT_ROUND, yard.folds(90 + off, 90, 90, 90, 1), "the first off by " + off);
            same(Stresswork.NOT_ROUND, yard.folds(90, 90 + off, 90, 90, 1), "the second off by " + off);
            same(Stresswork.NOT_ROUND, yard.folds(90, 90, 90 + off, 90, 1), "the third off by " + off);
            same(Stresswork.NOT_ROUND, yard.folds(90, 90, 90, 90 + off, 1), "the fourth off by " + off);
        }
        same(Stresswork.NOT_ROUND, yard.folds(180, 180, 180, 180, 1), "720");
        same(Stresswork.NOT_ROUND, yard.folds(359, 359, 359, 359, 1), "as much as can be");
        same(Stresswork.NOT_ROUND, yard.folds(1, 1, 1, 1, 1), "as little as can be");
    }

    private static void even() {
        CHECK.sentence("the first and the third 180");
        Stresswork yard = new Stresswork();
        same(Stresswork.FLAT, yard.folds(1, 1, 179, 179, 1), "1 and 179");
        same(Stresswork.FLAT, yard.folds(179, 179, 1, 1, 1), "179 and 1");
        same(Stresswork.NOT_EVEN, yard.folds(90, 91, 89, 90, 1), "179 together");
        same(Stresswork.NOT_EVEN, yard.folds(91, 89, 90, 90, 1), "181 together");
        same(Stresswork.NOT_EVEN, yard.folds(90, 90, 91, 89, 1), "181 together, by the third");
        same(Stresswork.NOT_EVEN, yard.folds(90, 50, 50, 170, 1), "the first two have 140, the ends 260");
        same(Stresswork.NOT_EVEN, yard.folds(100, 80, 100, 80, 1), "the first and the second 180");
        same(Stresswork.NOT_EVEN, yard.folds(1, 1, 1, 357, 1), "as little as can be");
        same(Stresswork.NOT_EVEN, yard.folds(178, 1, 180, 1, 1), "as much as can be");
    }

    private static void mountainsAndValleys() {
        CHECK.sentence("and if mountains and valleys are three and one, or one and three");
        Stresswork yard = new Stresswork();
        for (int mountains = 0; mountains < 16; mountains++) {
            int count = 0;
            for (int fold = 1; fold < 16; fold *= 2) {
                count += mountains / fold % 2;
            }
            int due = count % 2 == 1 ? Stresswork.FLAT : Stresswork.NOT_TOLD;
            same(due, yard.folds(60, 70, 120, 110, mountains), "mountains " + mountains);
        }
    }

    private static void firstThatIsNotSo() {
        CHECK.sentence("Otherwise it is told why: the first of these that is not so.");
        Stresswork yard = new Stresswork();
        same(Stresswork.NOT_ROUND, yard.folds(80, 90, 90, 90, 0), "none is so");
        same(Stresswork.NOT_ROUND, yard.folds(80, 90, 90, 90, 1), "the third alone is so");
        same(Stresswork.NOT_ROUND, yard.folds(90, 90, 90, 80, 0), "the second alone is so");
        same(Stresswork.NOT_ROUND, yard.folds(90, 90, 90, 80, 7), "the first alone is not so");
        same(Stresswork.NOT_EVEN, yard.folds(80, 100, 90, 90, 15), "the first alone is so");
        same(Stresswork.NOT_EVEN, yard.folds(80, 100, 90, 90, 14), "the second alone is not so");
        same(Stresswork.NOT_TOLD, yard.folds(80, 90, 100, 90, 5), "the third alone is not so");
        same(Stresswork.FLAT, yard.folds(80, 90, 100, 90, 4), "all are so");
    }

    private static void foldsInRange() {
        CHECK.sentence("1 to 359: the first angle");
        Stresswork yard = new Stresswork();
        same(Stresswork.NOT_ROUND, yard.folds(359, 1, 1, 1, 0), "the first as wide as can be");
        same(Stresswork.NOT_ROUND, yard.folds(1, 359, 1, 1, 0), "the second as wide as can be");
        same(Stresswork.NOT_ROUND, yard.folds(1, 1, 359, 1, 15), "the third as wide as can be");
        same(Stresswork.NOT_ROUND, yard.folds(1, 1, 1, 359, 15), "the fourth as wide as can be");
    }

    private static void foldsOutOfRange() {
        CHECK.sentence("if one of them is out of range");
        for (int far : new int[] {0, -1, 360, 361, Integer.MIN_VALUE, Integer.MAX_VALUE}) {
            CHECK.eachRefused(Check.ARGUMENT, Yards::busy, "an angle of " + far, List.of(
                    y -> y.folds(far, 90, 90, 90, 1), y -> y.folds(90, far, 90, 90, 1),
                    y -> y.folds(90, 90, far, 90, 1), y -> y.folds(90, 90, 90, far, 1)));
        }
        for (int far : new int[] {-1, 16, Integer.MIN_VALUE, Integer.MAX_VALUE}) {
            CHECK.refused(Check.ARGUMENT, Yards::busy, y -> y.folds(90, 90, 90, 90, far), "mountains " + far);
        }
    }

    private static void ranges() {
        CHECK.sentence("0 to 30000; NONE takes it back");
        Stresswork yard = Yards.loose(10);
        int before = NONE;
        for (int square : new int[] {0, 1, 29999, 30000, NONE, NONE, 7, 0, NONE}) {
            same(before, yard.range(9, square), "the one before " + square);
            before = square;
        }
        same(NONE, yard.range(8, NONE), "of the joint ahead");
        same(ALL, yard.places(0), "all are taken back");
        yard.range(3, 12);
        yard.pin(3, true);
        yard.move(3, 0, 0);
        same(12, yard.range(3, 0), "pins and moves leave it");
    }

    private static void rangesRefused() {
        CHECK.sentence("if square is out of range");
        for (int far : new int[] {-2, 30001, Integer.MIN_VALUE, Integer.MAX_VALUE}) {
            CHECK.eachRefused(Check.ARGUMENT, Yards::busy, "a square of " + far, List.of(
                    y -> y.range(0, far), y -> y.range(2, far)));
        }
        CHECK.eachRefused(Check.INDEX, Yards::busy, "range", List.of(
                y -> y.range(-1, 0), y -> y.range(6, 0), y -> y.range(10, NONE), y -> y.range(6, -2),
                y -> y.range(Integer.MIN_VALUE, 0), y -> y.range(Integer.MAX_VALUE, 30001)));
    }

    /** A joint with a range. */
    private static Stresswork ranged(int x, int y, int square) {
        Stresswork yard = new Stresswork();
        yard.joint(x, y);
        yard.range(0, square);
        return yard;
    }

    private static void squareToldForAJoint() {
        CHECK.sentence("A place is found by ranges to joints: the square of a distance is told for a joint.");
        same(ALL, new Stresswork().places(0), "without joints");
        same(ALL, Yards.loose(10).places(0), "without ranges");
        same(4, ranged(3, 4, 1).places(0), "a square of 1");
        same(4, ranged(3, 4, 2).places(0), "a square of 2");
        same(0, ranged(3, 4, 3).places(0), "a square that no whole point has");
        same(8, ranged(3, 4, 5).places(0), "a square of 5");
        same(12, ranged(3, 4, 25).places(0), "a square of 25");
        Stresswork ten = Yards.loose(10);
        for (int joint = 0; joint < 10; joint++) {
            int x = 3 * joint - 11;
            int y = joint * joint - 40 - 7;
            ten.range(joint, x * x + y * y);
            same(true, ten.places(0) >= 1, "ranges of " + (joint + 1) + " joints to one point");
        }
        same(1, ten.places(0), "ten ranges to one point");
        same(71067, ten.place(0, 0), "that point, 11 and 7");
        ten.range(9, NONE);
        ten.range(0, 0);
        same(0, ten.places(0), "one of them is off");
    }

    private static void wholePoints() {
        CHECK.sentence("A whole point, x and y from -60 to 60");
        same(12, ranged(0, 0, 200).places(0), "all within");
        same(8, ranged(50, 50, 200).places(0), "those at 64 are not there");
        same(8, ranged(-50, -50, 200).places(0), "those at -64 are not there");
        int[][] corners = {{-50, -50, 0}, {-50, 50, 120}, {50, -50, 120000}, {50, 50, 120120}};
        for (int[] corner : corners) {
            // The farthest corner of the points is 110 by 110 from the other corner's joint.
            Stresswork yard = ranged(-corner[0], -corner[1], 24200);
            same(1, yard.places(0), "the corner beyond " + corner[0] + " " + corner[1]);
            same(corner[2], yard.place(0, 0), "its point");
            yard.range(0, 24201);
            same(0, yard.places(0), "no point is farther");
            same(1, yard.places(1), "but by an error");
        }
        Stresswork side = ranged(50, 0, 100);
        same(120060, side.place(0, 11), "60 and 0 is there");
        side.range(0, 121);
        same(3, side.places(0), "a distance of 11: 61 and 0 is not there");
    }

    private static void errorAboveOrBelow() {
        CHECK.sentence("is at most the error above or below what was told");
        // Points at a square of 7, 8, 9, 10, 11: none, 4, 4, 8, none.
        Stresswork yard = ranged(0, 0, 9);
        same(4, yard.places(0), "9 alone");
        same(16, yard.places(1), "8 to 10");
        same(16, yard.places(2), "7 to 11");
        yard.range(0, 10);
        same(12, yard.places(1), "9 to 11: as far below as can be");
        yard.range(0, 7);
        same(4, yard.places(1), "6 to 8: as far above as can be");
        same(16, yard.places(2), "5 to 9");
        yard.range(0, 0);
        same(1, yard.places(0), "the joint's own point");
        same(5, yard.places(1), "and those beside it");
        same(9, yard.places(3), "and those behind the corners");
        same(13, yard.places(4), "and those two away");
        yard.joint(1, 0);
        yard.range(1, 1);
        same(1, yard.places(0), "each joint with a range: the own point again");
        yard.range(1, 2);
        same(0, yard.places(0), "one that fits one alone does not");
        same(3, yard.places(1), "by an error of 1 for each");
    }

    private static void whereThatIsNow() {
        CHECK.sentence("to each joint with a range, where that is now");
        Stresswork yard = ranged(0, 0, 0);
        same(60060, yard.place(0, 0), "at first");
        yard.move(0, -50, 50);
        same(10110, yard.place(0, 0), "after a move");
        same(1, yard.places(0), "that alone");
        yard.pin(0, true);
        yard.move(0, 50, -50);
        same(110010, yard.place(0, 0), "pinned, after a move");
    }

    private static void noneFits() {
        CHECK.sentence("Returns how many whole points fit the ranges.");
        Stresswork yard = ranged(0, 0, 30000);
        same(0, yard.places(0), "too far away");
        same(0, yard.places(5000), "too far away, by the widest error");
        same(NONE, yard.place(5000, 0), "no first one");
        yard.range(0, 7200);
        same(4, yard.places(0), "the corners");
        yard.range(0, 2500);
        int near = yard.places(0);
        same(20, near, "a distance of 50");
        same(20, yard.places(0), "asked again");
    }

    private static void errors() {
        CHECK.sentence("0 to 5000");
        Stresswork yard = ranged(0, 0, 12200);
        // The corners have 7200: just in the widest error, and just not.
        same(4, yard.places(5000), "the widest error");
        same(0, yard.places(4999), "one less");
        yard.range(0, 12201);
        same(0, yard.places(5000), "the widest error, one farther");
        same(ALL, new Stresswork().places(5000), "the widest error without ranges");
        for (int far : new int[] {-1, 5001, Integer.MIN_VALUE, Integer.MAX_VALUE}) {
            CHECK.eachRefused(Check.ARGUMENT, Yards::busy, "an error of " + far, List.of(
                    y -> y.places(far), y -> y.place(far, 0), y -> y.place(far, Integer.MAX_VALUE)));
        }
    }

    private static void byRisingXThenY() {
        CHECK.sentence("Points are told by rising x, then by rising y.");
        Stresswork yard = ranged(-2, 3, 5);
        int[] due = {56062, 56064, 57061, 57065, 59061, 59065, 60062, 60064};
        for (int i = 0; i < due.length; i++) {
            same(due[i], yard.place(0, i), "place " + i);
        }
        same(NONE, yard.place(0, due.length), "none more");
        Stresswork all = new Stresswork();
        for (int i = 0; i < ALL; i += 97) {
            same(1000 * (i / 121) + i % 121, all.place(0, i), "place " + i + " of all");
        }
    }

    private static void notSoManyPlaces() {
        CHECK.sentence("NONE if there are not so many");
        Stresswork all = new Stresswork();
        same(0, all.place(0, 0), "the first of all");
        same(120120, all.place(0, ALL - 1), "the last of all");
        same(NONE, all.place(0, ALL), "one behind the last of all");
        same(NONE, all.place(0, Integer.MAX_VALUE), "far behind the last of all");
        Stresswork one = ranged(50, 50, 0);
        same(110110, one.place(0, 0), "the only one");
        same(NONE, one.place(0, 1), "one behind the only one");
        Stresswork none = ranged(0, 0, 3);
        same(NONE, none.place(0, 0), "the first of none");
    }

    private static void placeRefused() {
        CHECK.sentence("if place is below 0");
        CHECK.eachRefused(Check.INDEX, Yards::busy, "place", List.of(
                y -> y.place(0, -1), y -> y.place(5000, -1), y -> y.place(0, Integer.MIN_VALUE),
                y -> y.place(-1, -1), y -> y.place(5001, -1)));
    }

    private static void numbersOfAJoint() {
        CHECK.sentence("0 x; 1 y; 2 how many members it has");
        Stresswork yard = Yards.wheel(9);
        same(9, yard.ofJoint(0, 2), "as many as there can be");
        for (int i = 0; i < 9; i++) {
            yard.remove(i);
            same(8 - i, yard.ofJoint(0, 2), "when " + (i + 1) + " are gone");
            same(2, yard.ofJoint(i + 1, 2), "at the other end");
        }
        yard.move(0, -50, 50);
        same(-50, yard.ofJoint(0, 0), "x");
        same(50, yard.ofJoint(0, 1), "y");
        same(0, Yards.loose(1).ofJoint(0, 2), "of the only joint");
    }

    private static void numbersRefused() {
        CHECK.sentence("if what is out of range");
        for (int what : new int[] {-1, 3, Integer.MIN_VALUE, Integer.MAX_VALUE}) {
            CHECK.refused(Check.ARGUMENT, Yards::busy, y -> y.ofJoint(0, what), "number " + what);
            CHECK.refused(Check.INDEX, Yards::busy, y -> y.ofJoint(6, what), "number " + what + " of no joint");
        }
        CHECK.eachRefused(Check.INDEX, Yards::busy, "ofJoint", List.of(
                y -> y.ofJoint(-1, 0), y -> y.ofJoint(6, 2), y -> y.ofJoint(10, 1),
                y -> y.ofJoint(Integer.MIN_VALUE, 0), y -> y.ofJoint(Integer.MAX_VALUE, 0)));
    }
}
