import java.util.List;
import java.util.function.Supplier;

/** Promises 7 to 13, "Ranks" and "Drawn points" under Terms: each sentence that names an edge, on its own. */
public final class RankEdgesTest {
    private static final int PRIME = 1000003;
    private static final int NONE = Stresswork.NONE;
    private static final Check CHECK = new Check();

    private RankEdgesTest() {
    }

    public static void main(String[] args) {
        byThePrime();
        numbersInRange();
        columnsOfNone();
        columnsByNumbers();
        rowsByNumbers();
        rowsOfPins();
        rowsWithoutLength();
        mostOfAll();
        redundant();
        redundantOnALine();
        freeColumns();
        flexKeepsEach();
        notSoManyFlexes();
        flexRefused();
        freeMembers();
        notSoManyBalances();
        tallAndWide();
        balanceRefused();
        drawnWithoutPins();
        drawnOfNotGone();
        drawnByNumbers();
        seeds();
        CHECK.end("RankEdgesTest");
    }

    private static void same(Object due, Object got, String what) {
        CHECK.same(due, got, what);
    }

    /** A triangle of bars, each of its joints on a leg to a pin: 6 rows, 6 columns. */
    private static Stresswork onLegs(int lastX) {
        Stresswork yard = new Stresswork();
        int[][] at = {{-19, 13}, {-26, 24}, {-14, 26}, {1, -36}, {47, 18}, {lastX, -5}};
        for (int i = 0; i < 6; i++) {
            yard.joint(at[i][0], at[i][1]);
            yard.pin(i, i >= 3);
        }
        for (int i = 0; i < 3; i++) {
            yard.member(i, (i + 1) % 3, Stresswork.BAR);
            yard.member(i, i + 3, Stresswork.BAR);
        }
        return yard;
    }

    private static void byThePrime() {
        CHECK.sentence("All here is reckoned modulo 1000003");
        // The determinant is 1000003 times the triangle's area, so that the frame holds exactly, but not by the prime.
        Stresswork yard = onLegs(-15);
        same(5, yard.rank(), "rank");
        same(1, yard.motions(), "motions");
        same(1, yard.stresses(), "stresses");
        for (int i = 0; i < 6; i++) {
            same(true, yard.isRedundant(i), "member " + i + " is redundant");
            same(true, yard.balance(0, i) > 0, "the balance at member " + i);
        }
        same(1, yard.flex(0, 2, true), "the flex at the last column");
        same(NONE, yard.flex(1, 2, true), "a second flex");
        Stresswork beside = onLegs(-14);
        same(6, beside.rank(), "rank with a pin beside");
        same(0, beside.motions(), "motions with a pin beside");
        same(false, beside.isRedundant(5), "redundant with a pin beside");
        same(NONE, beside.balance(0, 5), "balance with a pin beside");
    }

    private static void numbersInRange() {
        CHECK.sentence("in numbers from 0 to 1000002");
        Stresswork rod = Yards.loose(2);
        rod.move(0, 0, 0);
        rod.move(1, 1, 1);
        rod.member(0, 1, Stresswork.BAR);
        // The row is -1 -1 1 1.
        same(1000002, rod.flex(0, 0, false), "x moves by 1 less than nothing");
        same(1, rod.flex(0, 0, true), "y moves by 1");
        same(1, rod.flex(1, 0, false), "x moves along");
        same(0, rod.flex(1, 0, true), "y rests");
        Stresswork line = Yards.loose(3);
        for (int i = 0; i < 3; i++) {
            line.move(i, i == 2 ? -50 : 50 * i, 0);
        }
        line.member(0, 1, Stresswork.BAR);
        line.member(1, 2, Stresswork.BAR);
        line.member(0, 2, Stresswork.BAR);
        // Rows in x: -50 50 0, 0 100 -100, 50 0 -50: twice the first is the second less twice the third.
        same(1, line.balance(0, 0), "the first member's number");
        same(500001, line.balance(0, 1), "half of 1000002");
        same(1, line.balance(0, 2), "the free member's number");
    }

    private static void columnsOfNone() {
        CHECK.sentence("The columns are x and y of each joint that is not pinned");
        Stresswork none = new Stresswork();
        same(0, none.rank(), "rank of none");
        same(0, none.motions(), "motions of none");
        same(0, none.stresses(), "stresses of none");
        for (int count = 1; count <= 10; count++) {
            Stresswork yard = Yards.loose(count);
            for (int pinned = 0; pinned < count; pinned++) {
                same(2 * (count - pinned), yard.motions(), "motions, " + pinned + " pinned of " + count);
                yard.pin(pinned, true);
            }
            same(0, yard.motions(), "motions, all pinned of " + count);
            same(NONE, yard.flex(0, count - 1, false), "flex, all pinned of " + count);
        }
    }

    private static void columnsByNumbers() {
        CHECK.sentence("by numbers, x first");
        Stresswork yard = Yards.loose(10);
        yard.pin(3, true);
        yard.pin(7, true);
        int column = 0;
        for (int joint = 0; joint < 10; joint++) {
            if (joint != 3 && joint != 7) {
                same(1, yard.flex(column, joint, false), "its own flex at x of joint " + joint);
                same(0, yard.flex(column, joint, true), "the flex of x at y of joint " + joint);
                same(0, yard.flex(column + 1, joint, false), "the flex of y at x of joint " + joint);
                same(1, yard.flex(column + 1, joint, true), "its own flex at y of joint " + joint);
                column += 2;
            }
        }
        same(NONE, yard.flex(column, 9, true), "no column is left");
    }

    private static void rowsByNumbers() {
        CHECK.sentence("the rows the members, by numbers");
        Stresswork full = Yards.full();
        Yards.pinAll(full, 10);
        same(40, full.stresses(), "stresses of forty rows of nothing");
        same(0, full.rank(), "rank of forty rows of nothing");
        for (int i = 0; i < 40; i++) {
            same(1, full.balance(i, i), "its own balance at member " + i);
            same(0, full.balance(i, (i + 1) % 40), "that balance at the next member");
        }
        same(NONE, full.balance(40, 39), "no row is left");
        full.remove(0);
        full.remove(20);
        same(1, full.balance(0, 1), "rows of those that are gone are not there");
        same(1, full.balance(18, 19), "the last one ahead of a gap");
        same(1, full.balance(19, 21), "the first one behind a gap");
        same(1, full.balance(37, 39), "the last row");
        same(NONE, full.balance(38, 39), "no row is left when two are gone");
        same(0, Yards.loose(10).stresses(), "stresses without rows");
    }

    private static void rowsOfPins() {
        CHECK.sentence("and 0 elsewhere, as far as there are such columns");
        Stresswork yard = Yards.complete(2);
        same(1, yard.rank(), "rank of a rod");
        same(3, yard.motions(), "motions of a rod");
        yard.pin(0, true);
        same(1, yard.rank(), "rank with the first end pinned");
        same(1, yard.motions(), "motions with the first end pinned");
        yard.pin(1, true);
        same(0, yard.rank(), "rank with both ends pinned");
        same(1, yard.stresses(), "stresses with both ends pinned");
        yard.pin(0, false);
        same(1, yard.rank(), "rank with the second end pinned");
        same(0, yard.stresses(), "stresses with the second end pinned");
    }

    private static void rowsWithoutLength() {
        CHECK.sentence("has at a the x of a less that of b, and the y of a less that of b");
        Stresswork yard = Yards.complete(2);
        yard.move(0, 50, -50);
        yard.move(1, 50, -50);
        same(0, yard.rank(), "rank when both are at one point");
        same(1, yard.stresses(), "stresses when both are at one point");
        yard.move(1, 50, -49);
        same(1, yard.rank(), "rank when y is one beside");
        yard.move(1, 49, -50);
        same(1, yard.rank(), "rank when x is one beside");
        yard.move(1, -50, 50);
        same(1, yard.rank(), "rank when both are as far as can be");
        same(1, yard.flex(0, 0, false), "x moves as y does");
    }

    private static void mostOfAll() {
        CHECK.sentence("the motions are the columns less the rank, the stresses the rows less the rank");
        Stresswork full = Yards.full();
        same(17, full.rank(), "rank of forty members");
        same(3, full.motions(), "motions of forty members");
        same(23, full.stresses(), "stresses of forty members");
        full.pin(0, true);
        same(17, full.rank(), "rank with a pin");
        same(1, full.motions(), "motions with a pin");
        full.pin(9, true);
        same(16, full.rank(), "rank with two pins");
        same(0, full.motions(), "motions with two pins");
        same(24, full.stresses(), "stresses with two pins");
    }

    private static void redundant() {
        CHECK.sentence("A member is redundant, if the rank without it is the same.");
        same(false, Yards.complete(2).isRedundant(0), "the only one");
        Stresswork full = Yards.full();
        same(true, full.isRedundant(0), "the first of forty");
        same(true, full.isRedundant(39), "the last of forty");
        Stresswork wheel = Yards.wheel(5);
        for (int i = 0; i < 10; i++) {
            same(true, wheel.isRedundant(i), "member " + i + " of a wheel");
        }
        wheel.remove(9);
        for (int i = 0; i < 9; i++) {
            same(false, wheel.isRedundant(i), "member " + i + " of a wheel without one");
        }
        same(9, wheel.rank(), "to ask changes nothing");
        Stresswork pinned = Yards.complete(3);
        pinned.pin(0, true);
        pinned.pin(1, true);
        same(true, pinned.isRedundant(0), "between pins");
        same(false, pinned.isRedundant(1), "at one pin");
        same(false, pinned.isRedundant(2), "at the other pin");
        CHECK.eachRefused(Check.INDEX, Yards::busy, "isRedundant", List.of(
                y -> y.isRedundant(-1), y -> y.isRedundant(1), y -> y.isRedundant(6), y -> y.isRedundant(11),
                y -> y.isRedundant(40), y -> y.isRedundant(Integer.MIN_VALUE), y -> y.isRedundant(Integer.MAX_VALUE)));
    }

    private static void redundantOnALine() {
        CHECK.sentence("A member is redundant, if the rank without it is the same.");
        Stresswork line = Yards.complete(3);
        for (int i = 0; i < 3; i++) {
            same(false, line.isRedundant(i), "a triangle's member " + i);
            line.move(i, 10 * i, 5 * i);
        }
        for (int i = 0; i < 3; i++) {
            same(true, line.isRedundant(i), "on a line, member " + i);
        }
        line.move(2, 20, 11);
        same(false, line.isRedundant(0), "one beside the line");
    }

    private static void freeColumns() {
        CHECK.sentence("a column is free, if it depends on those ahead of it");
        Stresswork yard = Yards.loose(3);
        yard.move(1, 0, 0);
        yard.move(2, 10, 0);
        yard.member(1, 2, Stresswork.BAR);
        // The row is 0 0 -10 0 10 0: all but x of 1 are free, the first by nothing ahead of it.
        same(1, yard.flex(0, 0, false), "the first column is free");
        same(1, yard.flex(1, 0, true), "the second column is free");
        same(1, yard.flex(2, 1, true), "a column of nothing is free");
        same(0, yard.flex(2, 1, false), "and moves none with it");
        same(1, yard.flex(3, 2, false), "x of 2 is free");
        same(1, yard.flex(3, 1, false), "and x of 1 goes with it");
        same(1, yard.flex(4, 2, true), "the last column is free");
        same(NONE, yard.flex(5, 2, true), "there is no free one more");
    }

    private static void flexKeepsEach() {
        CHECK.sentence("and keeps each member: the sum of its row's numbers, each times what the column moves by, is 0");
        Stresswork yard = Yards.wheel(6);
        yard.remove(11);
        yard.remove(3);
        yard.pin(2, true);
        int flexes = yard.motions();
        same(2, flexes, "flexes of a wheel without two, at a pin");
        for (int k = 0; k < flexes; k++) {
            for (int spoke = 1; spoke <= 6; spoke++) {
                if (spoke != 4) {
                    same(0L, stretch(yard, k, 0, spoke), "flex " + k + " at the spoke to " + spoke);
                }
                if (spoke < 6) {
                    same(0L, stretch(yard, k, spoke, spoke + 1), "flex " + k + " at the rim behind " + spoke);
                }
            }
        }
    }

    private static long stretch(Stresswork yard, int k, int a, int b) {
        long sum = 0;
        for (int what = 0; what < 2; what++) {
            long apart = yard.ofJoint(a, what) - yard.ofJoint(b, what);
            sum += apart * (yard.flex(k, a, what == 1) - yard.flex(k, b, what == 1));
        }
        return sum % PRIME;
    }

    private static void notSoManyFlexes() {
        CHECK.sentence("Returns 0 to 1000002, 0 of one that is pinned; NONE if there are not so many flexes.");
        Stresswork yard = Yards.loose(2);
        yard.pin(0, true);
        same(0, yard.flex(0, 0, false), "flex 0 at x of a pin");
        same(0, yard.flex(0, 0, true), "flex 0 at y of a pin");
        same(0, yard.flex(1, 0, true), "the last flex at a pin");
        same(1, yard.flex(1, 1, true), "the last flex");
        for (int k : new int[] {2, 3, 20, Integer.MAX_VALUE}) {
            same(NONE, yard.flex(k, 1, false), "flex " + k + " of two");
            same(NONE, yard.flex(k, 0, false), "flex " + k + " of two, at a pin");
        }
        Stresswork still = Yards.complete(3);
        still.pin(0, true);
        still.pin(1, true);
        same(NONE, still.flex(0, 2, false), "flex 0 of none");
        Stresswork ten = Yards.loose(10);
        same(1, ten.flex(19, 9, true), "the last of as many as there can be");
        same(NONE, ten.flex(20, 9, true), "one behind as many as there can be");
    }

    private static void flexRefused() {
        CHECK.sentence("if there is no such joint, or k is below 0");
        CHECK.eachRefused(Check.INDEX, Yards::busy, "flex", List.of(
                y -> y.flex(0, -1, false), y -> y.flex(0, 6, false), y -> y.flex(0, 10, true),
                y -> y.flex(0, Integer.MIN_VALUE, true), y -> y.flex(0, Integer.MAX_VALUE, true),
                y -> y.flex(-1, 0, false), y -> y.flex(-1, 5, true), y -> y.flex(-1, 3, true),
                y -> y.flex(Integer.MIN_VALUE, 0, true), y -> y.flex(-1, -1, true), y -> y.flex(99, 6, true)));
    }

    private static void freeMembers() {
        CHECK.sentence("the free members, those whose row depends on the rows ahead of it");
        Stresswork yard = Yards.complete(4);
        yard.pin(0, true);
        yard.pin(1, true);
        // Member 0 is between the pins: nothing, and so free with nothing ahead of it.
        same(1, yard.balance(0, 0), "the first member is free");
        same(0, yard.balance(0, 5), "its balance has nothing elsewhere");
        same(1, yard.balance(1, 5), "the last member is free");
        same(0, yard.balance(1, 0), "the last one's balance at the first");
        same(true, yard.balance(1, 1) > 0, "the last one's balance elsewhere");
        same(NONE, yard.balance(2, 5), "there is no third");
        Stresswork stacked = Yards.complete(3);
        stacked.move(1, 0, -40);
        // Members 1 and 2 go from one point to joint 2.
        same(1, stacked.balance(0, 0), "a member without length is free");
        same(0, stacked.balance(0, 2), "and its balance is its own");
        same(NONE, stacked.balance(1, 2), "the two others are not, as their joints are two");
    }

    private static void notSoManyBalances() {
        CHECK.sentence("Returns 0 to 1000002; NONE if there are not so many.");
        Stresswork wheel = Yards.wheel(9);
        same(1, wheel.balance(0, 17), "the only balance at the last member");
        same(true, wheel.balance(0, 0) > 0, "the only balance at the first member");
        for (int k : new int[] {1, 2, 40, Integer.MAX_VALUE}) {
            same(NONE, wheel.balance(k, 0), "balance " + k + " of one");
        }
        wheel.remove(17);
        same(NONE, wheel.balance(0, 0), "balance 0 of none");
        Stresswork full = Yards.full();
        same(1, full.balance(22, 39), "the last of 23");
        same(NONE, full.balance(23, 39), "one behind the last of 23");
    }

    private static void tallAndWide() {
        CHECK.sentence("and makes the sum of all rows, each times its number, nothing");
        for (int free = 1; free <= 10; free++) {
            Stresswork yard = Yards.full();
            for (int joint = free; joint < 10; joint++) {
                yard.pin(joint, true);
            }
            int last = yard.stresses() - 1;
            for (int joint = 0; joint < free; joint++) {
                same(0L, push(yard, last, joint, 0), "x of joint " + joint + ", free ones " + free);
                same(0L, push(yard, last, joint, 1), "y of joint " + joint + ", free ones " + free);
            }
            same(1, yard.balance(last, 39), "the last balance at the last member, free ones " + free);
        }
        Stresswork wide = Yards.loose(10);
        wide.move(1, 0, -40);
        wide.member(0, 1, Stresswork.BAR);
        same(1, wide.balance(0, 0), "one row, twenty columns");
        same(NONE, wide.balance(1, 0), "no second one");
        Stresswork last = Yards.loose(10);
        last.member(8, 9, Stresswork.BAR);
        same(NONE, last.balance(0, 0), "one row that has something in the last columns alone");
    }

    /** The sum of a full yard's rows at a column of a joint; members go by rising pairs. */
    private static long push(Stresswork yard, int k, int joint, int what) {
        long sum = 0;
        int member = 0;
        for (int i = 0; i < 10; i++) {
            for (int j = i + 1; j < 10 && member < 40; j++) {
                if (i == joint || j == joint) {
                    long apart = yard.ofJoint(joint, what) - yard.ofJoint(i + j - joint, what);
                    sum += apart * yard.balance(k, member);
                }
                member++;
            }
        }
        return sum % PRIME;
    }

    private static void balanceRefused() {
        CHECK.sentence("if there is no such member, or it is gone, or k is below 0");
        CHECK.eachRefused(Check.INDEX, Yards::busy, "balance", List.of(
                y -> y.balance(0, -1), y -> y.balance(0, 11), y -> y.balance(0, 40), y -> y.balance(0, 1),
                y -> y.balance(0, 6), y -> y.balance(0, Integer.MIN_VALUE), y -> y.balance(0, Integer.MAX_VALUE),
                y -> y.balance(-1, 0), y -> y.balance(-1, 10), y -> y.balance(Integer.MIN_VALUE, 0),
                y -> y.balance(-1, -1), y -> y.balance(99, 1)));
    }

    private static void drawnWithoutPins() {
        CHECK.sentence("A rank at drawn points is that of all members with no joint pinned");
        Stresswork full = Yards.full();
        same(17, full.rankAt(4), "of ten joints");
        Yards.pinAll(full, 10);
        same(17, full.rankAt(4), "of ten joints, all pinned");
        same(0, full.rank(), "the pins are left");
        same(true, full.pin(0, true), "the first pin is left");
        for (int joint = 0; joint < 10; joint++) {
            full.move(joint, 0, 0);
        }
        same(17, full.rankAt(4), "of ten joints at one point");
        same(0, full.ofJoint(9, 1), "the points are left");
        same(0, new Stresswork().rankAt(4), "of none");
        same(0, Yards.loose(1).rankAt(4), "of one");
        same(0, Yards.loose(10).rankAt(4), "of no members");
        same(1, Yards.complete(2).rankAt(4), "of one member");
    }

    private static void drawnOfNotGone() {
        CHECK.sentence("What follows is of the members that are not gone");
        Stresswork wheel = Yards.wheel(4);
        same(7, wheel.rankAt(12), "of a wheel");
        wheel.remove(0);
        same(7, wheel.rankAt(12), "of a wheel without one");
        wheel.remove(7);
        same(6, wheel.rankAt(12), "of a wheel without two");
        for (int i = 1; i < 7; i++) {
            wheel.remove(i);
        }
        same(0, wheel.rankAt(12), "when all are gone");
    }

    private static long nextSeed(long seed) {
        return (1103 * seed + 12345) % PRIME;
    }

    private static long drawn(long seed) {
        return seed * seed % PRIME * seed % PRIME;
    }

    private static void drawnByNumbers() {
        CHECK.sentence("each joint at a point that is drawn, by numbers, x first");
        // Seeds, found by trial, for which the joints named lie on a line, and no three others of a first few.
        int[][] lines = {{317464, 0, 1, 2}, {229628, 0, 1, 3}, {767945, 1, 2, 3}, {445626, 0, 4, 9}};
        for (int[] line : lines) {
            int seed = line[0];
            same(0L, twist(seed, line[1], line[2], line[3]), "the line of seed " + seed);
            same(2, triangle(line[1], line[2], line[3]).rankAt(seed), "rank on the line of seed " + seed);
            for (int joint = 0; joint < 10; joint++) {
                if (joint != line[1] && joint != line[2] && joint != line[3]) {
                    int due = twist(seed, line[1], line[2], joint) == 0 ? 2 : 3;
                    same(due, triangle(line[1], line[2], joint).rankAt(seed), "joint " + joint + ", seed " + seed);
                }
            }
        }
    }

    private static Stresswork triangle(int a, int b, int c) {
        Stresswork yard = Yards.loose(10);
        yard.member(a, b, Stresswork.BAR);
        yard.member(b, c, Stresswork.BAR);
        yard.member(c, a, Stresswork.BAR);
        return yard;
    }

    /** 0 if the three drawn points are on a line, by the prime. */
    private static long twist(int seed, int a, int b, int c) {
        long[] drawn = new long[20];
        long now = seed;
        for (int i = 0; i < 20; i++) {
            now = nextSeed(now);
            drawn[i] = drawn(now);
        }
        long across = (drawn[2 * b] - drawn[2 * a]) % PRIME * ((drawn[2 * c + 1] - drawn[2 * a + 1]) % PRIME);
        long down = (drawn[2 * c] - drawn[2 * a]) % PRIME * ((drawn[2 * b + 1] - drawn[2 * a + 1]) % PRIME);
        return Math.floorMod(across - down, (long) PRIME);
    }

    private static void seeds() {
        CHECK.sentence("seed: 0 to 1000002");
        for (int seed : new int[] {0, 1, 1000001, 1000002}) {
            same(5, Yards.braced().rankAt(seed), "seed " + seed);
        }
        // 1102 times it and 12345 is nothing: the draws stay at this seed, and all joints at one point.
        Supplier<Stresswork> full = Yards::full;
        for (int seed = 0; seed < PRIME; seed++) {
            if (nextSeed(seed) == seed) {
                same(0, full.get().rankAt(seed), "the seed that stays, " + seed);
                same(17, full.get().rankAt((seed + 1) % PRIME), "the one behind it");
            }
        }
        CHECK.eachRefused(Check.ARGUMENT, Yards::busy, "rankAt", List.of(
                y -> y.rankAt(-1), y -> y.rankAt(1000003), y -> y.rankAt(1000004),
                y -> y.rankAt(Integer.MIN_VALUE), y -> y.rankAt(Integer.MAX_VALUE)));
        CHECK.refused(Check.ARGUMENT, Stresswork::new, y -> y.rankAt(1000003), "rankAt of none");
    }
}
