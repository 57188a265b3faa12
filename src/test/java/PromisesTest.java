import java.math.BigInteger;
import java.util.List;
import java.util.function.Consumer;
import java.util.function.Supplier;

/** For each promise of the document: ordinary inputs, the edges that it names, and wrong inputs. */
public final class PromisesTest {
    private static final int PRIME = 1000003;
    private static final Check CHECK = new Check();

    private PromisesTest() {
    }

    public static void main(String[] args) {
        newObject();
        joint();
        move();
        pin();
        member();
        memberRoom();
        remove();
        ranks();
        rankOfPins();
        isRedundant();
        flex();
        balance();
        rankAt();
        rankOnDrawnLines();
        kept();
        block();
        lacks();
        isGlobal();
        grow();
        split();
        stepRoom();
        undo();
        undoRefused();
        undoOfSplits();
        stress();
        unbalanced();
        isProper();
        matrix();
        reaches();
        folds();
        range();
        places();
        place();
        ofJoint();
        CHECK.end("PromisesTest");
    }

    private static void same(Object due, Object got, String what) {
        CHECK.same(due, got, what);
    }

    private static void newObject() {
        Stresswork yard = new Stresswork();
        same(0, yard.rank(), "rank of none");
        same(0, yard.motions(), "motions of none");
        same(0, yard.stresses(), "stresses of none");
        same(0, yard.rankAt(1), "rankAt of none");
        same(0, yard.kept(), "kept of none");
        same(Stresswork.NONE, yard.lacks(), "lacks of none");
        same(true, yard.isGlobal(), "isGlobal of none");
        same(0, yard.unbalanced(), "unbalanced of none");
        same(false, yard.isProper(), "isProper of none");
        same(0, yard.matrix(), "matrix of none");
        same(14641, yard.places(0), "places of none");
        CHECK.eachRefused(Check.INDEX, Stresswork::new, "of no joint", List.of(
                y -> y.move(0, 0, 0), y -> y.pin(0, true), y -> y.member(0, 1, 0), y -> y.remove(0),
                y -> y.flex(0, 0, true), y -> y.balance(0, 0), y -> y.ofJoint(0, 0), y -> y.range(0, 0)));
        CHECK.refused(Check.STATE, Stresswork::new, Stresswork::undo, "undo of none");
    }

    private static void joint() {
        Stresswork yard = new Stresswork();
        same(0, yard.joint(-50, 50), "first joint");
        same(1, yard.joint(50, -50), "second joint");
        same(-50, yard.ofJoint(0, 0), "x of the first");
        same(50, yard.ofJoint(0, 1), "y of the first");
        same(50, yard.ofJoint(1, 0), "x of the second");
        same(-50, yard.ofJoint(1, 1), "y of the second");
        same(false, yard.pin(1, false), "a joint is not pinned at first");
        same(2, yard.joint(50, -50), "a joint where one is");
        for (int i = 3; i < 10; i++) {
            same(i, yard.joint(i, i), "joint " + i);
        }
        CHECK.eachRefused(Check.ARGUMENT, Yards::busy, "joint", List.of(
                y -> y.joint(51, 0), y -> y.joint(-51, 0), y -> y.joint(0, 51), y -> y.joint(0, -51),
                y -> y.joint(Integer.MIN_VALUE, 0), y -> y.joint(0, Integer.MAX_VALUE)));
        CHECK.refused(Check.STATE, () -> Yards.loose(10), y -> y.joint(0, 0), "an eleventh joint");
        CHECK.refused(Check.ARGUMENT, () -> Yards.loose(10), y -> y.joint(0, 51), "an eleventh joint, out of range");
    }

    private static void move() {
        Stresswork yard = Yards.square();
        yard.move(2, -50, 50);
        same(-50, yard.ofJoint(2, 0), "x after move");
        same(50, yard.ofJoint(2, 1), "y after move");
        yard.move(2, 50, -50);
        same(50, yard.ofJoint(2, 0), "x after a second move");
        yard.pin(2, true);
        yard.move(2, 1, 2);
        same(2, yard.ofJoint(2, 1), "y of a pinned joint that was moved");
        same(true, yard.pin(2, true), "it is pinned still");
        Stresswork flat = Yards.braced();
        same(5, flat.rank(), "rank ahead of a move");
        flat.move(2, 10, 0);
        flat.move(3, -10, 0);
        same(3, flat.rank(), "rank of joints on a line");
        CHECK.eachRefused(Check.INDEX, Yards::busy, "move", List.of(
                y -> y.move(6, 0, 0), y -> y.move(-1, 0, 0), y -> y.move(6, 51, 0),
                y -> y.move(Integer.MAX_VALUE, 0, 0)));
        CHECK.eachRefused(Check.ARGUMENT, Yards::busy, "move", List.of(
                y -> y.move(0, 51, 0), y -> y.move(0, -51, 0), y -> y.move(0, 0, 51), y -> y.move(0, 0, -51)));
    }

    private static void pin() {
        Stresswork yard = Yards.square();
        same(false, yard.pin(1, true), "pin answers what was");
        same(true, yard.pin(1, true), "pin once more");
        same(true, yard.pin(1, false), "the pin taken out");
        same(false, yard.pin(1, false), "taken out once more");
        same(4, yard.motions(), "motions without pins");
        yard.pin(0, true);
        same(2, yard.motions(), "motions with a pin");
        yard.pin(1, true);
        same(1, yard.motions(), "motions with two pins");
        yard.pin(0, false);
        yard.pin(1, false);
        same(4, yard.motions(), "motions when pins were taken out");
        CHECK.eachRefused(Check.INDEX, Yards::busy, "pin", List.of(
                y -> y.pin(6, true), y -> y.pin(-1, true), y -> y.pin(6, false)));
    }

    private static void member() {
        Stresswork yard = Yards.loose(4);
        same(0, yard.member(0, 1, Stresswork.BAR), "first member");
        same(1, yard.member(3, 1, Stresswork.CABLE), "second member");
        same(2, yard.member(2, 3, Stresswork.STRUT), "third member");
        same(2, yard.ofJoint(3, 2), "members of a joint");
        yard.remove(0);
        same(3, yard.member(1, 0, Stresswork.BAR), "a number does not come again");
        CHECK.eachRefused(Check.INDEX, Yards::busy, "member", List.of(
                y -> y.member(6, 0, 0), y -> y.member(0, 6, 0), y -> y.member(-1, 0, 0), y -> y.member(0, -1, 0),
                y -> y.member(6, 6, 0), y -> y.member(0, 6, 3)));
        CHECK.eachRefused(Check.ARGUMENT, Yards::busy, "member", List.of(
                y -> y.member(0, 0, 0), y -> y.member(1, 5, 3), y -> y.member(1, 4, -1),
                y -> y.member(0, 1, 3), y -> y.member(0, 1, -1)));
        CHECK.eachRefused(Check.STATE, Yards::busy, "member", List.of(
                y -> y.member(0, 1, 0), y -> y.member(1, 0, 1), y -> y.member(2, 4, 2)));
    }

    private static void memberRoom() {
        Stresswork yard = Yards.used(39);
        same(39, yard.member(2, 3, Stresswork.BAR), "the fortieth member");
        same(2, yard.rank(), "both stand");
        CHECK.refused(Check.STATE, () -> Yards.used(40), y -> y.member(2, 3, 0), "a member beyond forty");
        CHECK.refused(Check.STATE, () -> {
            Stresswork gone = Yards.used(40);
            gone.remove(39);
            return gone;
        }, y -> y.member(0, 1, 0), "a member beyond forty where all are gone");
        CHECK.refused(Check.ARGUMENT, () -> Yards.used(40), y -> y.member(2, 3, 9), "beyond forty, of no kind");
    }

    private static void remove() {
        Stresswork yard = Yards.braced();
        same(5, yard.remove(0), "members left");
        same(4, yard.remove(5), "members left then");
        same(4, yard.rank(), "rank of those left");
        same(1, yard.ofJoint(1, 2), "members of a joint after it");
        same(3, yard.remove(1), "members left at last");
        same(0, yard.ofJoint(1, 2), "a joint with none");
        CHECK.eachRefused(Check.INDEX, Yards::busy, "remove", List.of(
                y -> y.remove(1), y -> y.remove(6), y -> y.remove(11), y -> y.remove(-1), y -> y.remove(40)));
    }

    private static void ranks() {
        Stresswork yard = Yards.square();
        same(4, yard.rank(), "rank of a square");
        same(4, yard.motions(), "motions of a square");
        same(0, yard.stresses(), "stresses of a square");
        yard.member(0, 2, Stresswork.CABLE);
        yard.member(1, 3, Stresswork.STRUT);
        same(5, yard.rank(), "rank of a braced square");
        same(3, yard.motions(), "motions of a braced square");
        same(1, yard.stresses(), "stresses of a braced square");
        Stresswork stacked = new Stresswork();
        stacked.joint(7, 7);
        stacked.joint(7, 7);
        stacked.member(0, 1, Stresswork.BAR);
        same(0, stacked.rank(), "rank of a member without length");
        same(4, stacked.motions(), "its motions");
        same(1, stacked.stresses(), "its stresses");
        Stresswork line = new Stresswork();
        line.joint(0, 0);
        line.joint(10, 0);
        line.joint(25, 0);
        line.member(0, 1, Stresswork.BAR);
        line.member(1, 2, Stresswork.BAR);
        line.member(0, 2, Stresswork.BAR);
        same(2, line.rank(), "rank of three joints on a line");
        same(4, line.motions(), "their motions");
        same(1, line.stresses(), "their stresses");
        same(13, Yards.complete(8).rank(), "rank of a complete frame");
        same(15, Yards.complete(8).stresses(), "stresses of a complete frame");
    }

    private static void rankOfPins() {
        Stresswork yard = Yards.braced();
        yard.pin(0, true);
        yard.pin(1, true);
        same(4, yard.rank(), "rank with two pins");
        same(0, yard.motions(), "motions with two pins");
        same(2, yard.stresses(), "a row between pins is nothing");
        yard.pin(2, true);
        yard.pin(3, true);
        same(0, yard.rank(), "rank with all pinned");
        same(0, yard.motions(), "motions with all pinned");
        same(6, yard.stresses(), "stresses with all pinned");
        same(5, yard.kept(), "pins do not matter in general");
    }

    private static void isRedundant() {
        Stresswork yard = Yards.braced();
        for (int i = 0; i < 6; i++) {
            same(true, yard.isRedundant(i), "a member of the braced square, " + i);
        }
        yard.joint(40, 40);
        int single = yard.member(2, 4, Stresswork.BAR);
        same(false, yard.isRedundant(single), "a member that hangs out");
        yard.remove(0);
        for (int i = 1; i < 6; i++) {
            same(false, yard.isRedundant(i), "a member when one is gone, " + i);
        }
        yard.pin(2, true);
        yard.pin(4, true);
        same(true, yard.isRedundant(single), "a member between pins");
        CHECK.eachRefused(Check.INDEX, Yards::busy, "isRedundant", List.of(
                y -> y.isRedundant(1), y -> y.isRedundant(6), y -> y.isRedundant(11), y -> y.isRedundant(-1)));
    }

    private static void flex() {
        Stresswork yard = Yards.square();
        yard.pin(0, true);
        yard.pin(1, true);
        same(1, yard.flex(0, 3, false), "the flex of a square with its base pinned");
        same(1, yard.flex(0, 2, false), "the joint beside moves along");
        same(0, yard.flex(0, 2, true), "but not up");
        same(0, yard.flex(0, 0, false), "a pinned joint is not moved");
        same(Stresswork.NONE, yard.flex(1, 2, false), "no second flex");
        same(Stresswork.NONE, yard.flex(1, 0, false), "no second flex, at a pinned joint");
        same(Stresswork.NONE, yard.flex(Integer.MAX_VALUE, 2, false), "no flex of that number");
        Stresswork rod = new Stresswork();
        rod.joint(0, 0);
        rod.joint(2, 3);
        rod.member(0, 1, Stresswork.BAR);
        // The row is -2 -3 2 3: y of 0 and both of 1 are free, x of 0 follows.
        same(moved(-3, 2), (long) rod.flex(0, 0, false), "x of 0 when y of 0 moves");
        same(1, rod.flex(0, 0, true), "y of 0 moves by 1");
        same(0, rod.flex(0, 1, false), "x of 1 rests");
        same(1, rod.flex(1, 0, false), "x of 0 when x of 1 moves");
        same(moved(3, 2), (long) rod.flex(2, 0, false), "x of 0 when y of 1 moves");
        same(1, rod.flex(2, 1, true), "y of 1 moves by 1");
        same(Stresswork.NONE, rod.flex(3, 1, true), "a rod has three");
        CHECK.eachRefused(Check.INDEX, Yards::busy, "flex", List.of(
                y -> y.flex(0, 6, true), y -> y.flex(0, -1, true), y -> y.flex(-1, 0, true),
                y -> y.flex(99, 6, false), y -> y.flex(Integer.MIN_VALUE, 0, false)));
    }

    private static long moved(long above, long below) {
        BigInteger prime = BigInteger.valueOf(PRIME);
        return BigInteger.valueOf(above)
                .multiply(BigInteger.valueOf(below).modInverse(prime)).mod(prime).longValue();
    }

    private static void balance() {
        Stresswork yard = Yards.braced();
        for (int i = 0; i < 4; i++) {
            same(PRIME - 1, yard.balance(0, i), "balance at a side");
        }
        same(1, yard.balance(0, 4), "balance at a diagonal");
        same(1, yard.balance(0, 5), "balance at the free member");
        same(Stresswork.NONE, yard.balance(1, 5), "no second balance");
        same(Stresswork.NONE, yard.balance(Integer.MAX_VALUE, 5), "no balance of that number");
        yard.remove(0);
        same(Stresswork.NONE, yard.balance(0, 5), "no balance when one is gone");
        int again = yard.member(1, 0, Stresswork.BAR);
        same(1, yard.balance(0, again), "the free member is the last by number");
        same(PRIME - 1, yard.balance(0, 5), "balance at the other diagonal");
        yard.pin(0, true);
        yard.pin(1, true);
        same(0, yard.balance(0, again), "the one between pins is another balance's");
        same(1, yard.balance(1, again), "that of its own");
        same(0, yard.balance(1, 2), "which has nothing elsewhere");
        CHECK.eachRefused(Check.INDEX, Yards::busy, "balance", List.of(
                y -> y.balance(0, 1), y -> y.balance(0, 6), y -> y.balance(0, 11), y -> y.balance(0, -1),
                y -> y.balance(-1, 0), y -> y.balance(-1, 6)));
    }

    private static void rankAt() {
        Stresswork yard = new Stresswork();
        for (int i = 0; i < 4; i++) {
            yard.joint(0, 0);
        }
        for (int i = 0; i < 4; i++) {
            yard.member(i, (i + 1) % 4, Stresswork.BAR);
        }
        yard.member(0, 2, Stresswork.BAR);
        same(0, yard.rank(), "all joints at one point");
        same(5, yard.rankAt(7), "at drawn points");
        yard.pin(0, true);
        yard.pin(1, true);
        same(5, yard.rankAt(0), "pins do not matter there");
        same(5, yard.rankAt(PRIME - 1), "the last seed");
        // Of this seed the next seed is the seed itself, so that all points are one.
        int still = still();
        same(0, yard.rankAt(still), "the seed that stays");
        same(5, yard.rankAt(still + 1), "the seed behind it");
        CHECK.eachRefused(Check.ARGUMENT, Yards::busy, "rankAt", List.of(
                y -> y.rankAt(-1), y -> y.rankAt(PRIME), y -> y.rankAt(Integer.MIN_VALUE)));
    }

    private static void rankOnDrawnLines() {
        // Seeds that draw three joints onto one line, looked for one by one.
        onLine(0, 1, 2, 317464, 624488);
        onLine(0, 1, 3, 229628, 707691);
        onLine(1, 2, 3, 513370, 767945);
        onLine(0, 4, 9, 11493, 445626);
    }

    private static void onLine(int a, int b, int c, int... seeds) {
        Stresswork yard = Yards.loose(10);
        yard.member(a, b, Stresswork.BAR);
        yard.member(b, c, Stresswork.CABLE);
        yard.member(c, a, Stresswork.STRUT);
        yard.pin(a, true);
        for (int seed : seeds) {
            same(2, yard.rankAt(seed), "a triangle on a drawn line, by " + seed);
            same(3, yard.rankAt(seed - 1), "a triangle, by the seed ahead of " + seed);
            same(3, yard.rankAt(seed + 1), "a triangle, by the seed behind " + seed);
        }
    }

    private static int still() {
        return (int) moved(-12345, 1102);
    }

    private static void kept() {
        Stresswork yard = Yards.braced();
        same(5, yard.kept(), "kept of a braced square");
        for (int i = 0; i < 6; i++) {
            same(i != 5, yard.isKept(i), "whether it is kept, " + i);
        }
        yard.remove(2);
        same(5, yard.kept(), "kept when one is gone");
        same(true, yard.isKept(5), "the last is kept then");
        for (int i = 1; i < 4; i++) {
            yard.move(i, 0, 0);
        }
        same(5, yard.kept(), "points do not matter");
        same(15, Yards.complete(9).kept(), "kept of nine joints");
        CHECK.eachRefused(Check.INDEX, Yards::busy, "isKept", List.of(
                y -> y.isKept(1), y -> y.isKept(6), y -> y.isKept(11), y -> y.isKept(-1)));
    }

    private static void block() {
        Stresswork yard = Yards.braced();
        yard.joint(40, 40);
        yard.joint(45, 40);
        int single = yard.member(2, 4, Stresswork.BAR);
        yard.member(4, 5, Stresswork.BAR);
        same(15, yard.block(0), "the block of a side");
        same(15, yard.block(5), "the block of a member that is not kept");
        same(20, yard.block(single), "the block of a single member");
        yard.member(2, 5, Stresswork.BAR);
        same(52, yard.block(single), "the block of a triangle");
        yard.remove(0);
        yard.remove(1);
        same(10, yard.block(5), "two joints that no member holds to others");
        same(13, yard.block(2), "a triangle that is left");
        CHECK.eachRefused(Check.INDEX, Yards::busy, "block", List.of(
                y -> y.block(1), y -> y.block(6), y -> y.block(11), y -> y.block(-1)));
    }

    private static void lacks() {
        same(Stresswork.NONE, Yards.loose(1).lacks(), "lacks of one joint");
        same(1, Yards.loose(2).lacks(), "lacks of two joints");
        same(17, Yards.loose(10).lacks(), "lacks of ten joints");
        same(0, Yards.complete(2).lacks(), "lacks of a rod");
        same(1, Yards.square().lacks(), "lacks of a square");
        Stresswork yard = Yards.braced();
        same(0, yard.lacks(), "lacks of a braced square");
        yard.joint(9, 9);
        same(2, yard.lacks(), "lacks of a joint more");
        yard.member(4, 0, Stresswork.CABLE);
        same(1, yard.lacks(), "lacks with a member to it");
        yard.pin(4, true);
        same(1, yard.lacks(), "a pin does not matter");
    }

    private static void isGlobal() {
        same(true, Yards.loose(1).isGlobal(), "one joint");
        same(false, Yards.loose(2).isGlobal(), "two joints without a member");
        same(true, Yards.complete(2).isGlobal(), "two joints with one");
        Stresswork three = Yards.loose(3);
        three.member(0, 1, Stresswork.BAR);
        three.member(1, 2, Stresswork.BAR);
        same(false, three.isGlobal(), "three joints with two members");
        three.member(0, 2, Stresswork.STRUT);
        same(true, three.isGlobal(), "a triangle");
        Stresswork four = Yards.square();
        four.member(0, 2, Stresswork.BAR);
        same(false, four.isGlobal(), "a square with one diagonal");
        same(true, Yards.braced().isGlobal(), "a braced square");
        Stresswork wheel = Yards.square();
        wheel.joint(10, 10);
        for (int i = 0; i < 4; i++) {
            wheel.member(i, 4, Stresswork.BAR);
        }
        same(true, wheel.isGlobal(), "a wheel");
        wheel.remove(0);
        same(false, wheel.isGlobal(), "a wheel without a side");
        same(false, Yards.hinged().isGlobal(), "two blocks that turn around two joints");
        same(false, Yards.prism().isGlobal(), "a prism: none can be taken away");
    }

    private static void grow() {
        Stresswork yard = Yards.loose(2);
        same(2, yard.grow(1, 0, -50, 50), "the joint that is grown");
        same(-50, yard.ofJoint(2, 0), "its x");
        same(50, yard.ofJoint(2, 1), "its y");
        same(2, yard.ofJoint(2, 2), "its bars");
        same(false, yard.pin(2, false), "it is not pinned");
        same(6, yard.block(0), "the first bar is to the first joint");
        same(5, yard.block(1), "the second bar is to the second joint");
        yard.stress(0, -1);
        yard.stress(1, 1);
        yard.pin(0, true);
        yard.pin(1, true);
        yard.pin(2, true);
        same(true, yard.isProper(), "both are bars");
        same(2, yard.member(0, 1, Stresswork.BAR), "the number behind the bars");
        CHECK.eachRefused(Check.INDEX, Yards::busy, "grow", List.of(
                y -> y.grow(6, 0, 0, 0), y -> y.grow(0, 6, 0, 0), y -> y.grow(-1, 0, 0, 0),
                y -> y.grow(0, -1, 0, 0), y -> y.grow(6, 6, 99, 0)));
        CHECK.eachRefused(Check.ARGUMENT, Yards::busy, "grow", List.of(
                y -> y.grow(0, 0, 0, 0), y -> y.grow(0, 1, 51, 0), y -> y.grow(0, 1, -51, 0),
                y -> y.grow(0, 1, 0, 51), y -> y.grow(0, 1, 0, -51)));
        CHECK.refused(Check.STATE, () -> Yards.loose(10), y -> y.grow(0, 1, 0, 0), "grow with ten joints");
        CHECK.refused(Check.ARGUMENT, () -> Yards.loose(10), y -> y.grow(0, 1, 0, 51), "grow with ten, out of range");
        CHECK.refused(Check.ARGUMENT, () -> Yards.loose(10), y -> y.grow(1, 1, 0, 0), "grow with ten, from one joint");
    }

    private static void split() {
        Stresswork yard = Yards.loose(3);
        yard.member(2, 0, Stresswork.CABLE);
        same(3, yard.split(0, 1, 50, -50), "the joint of a split");
        same(50, yard.ofJoint(3, 0), "its x");
        same(-50, yard.ofJoint(3, 1), "its y");
        same(3, yard.ofJoint(3, 2), "its bars");
        same(false, yard.pin(3, false), "it is not pinned");
        same("IndexOutOfBoundsException", Observed.answer(yard, y -> y.isKept(0)), "the member is gone");
        same(12, yard.block(1), "the first bar is to the end told first");
        same(9, yard.block(2), "the second bar is to the end told second");
        same(10, yard.block(3), "the third bar is to the third joint");
        for (int i = 0; i < 4; i++) {
            yard.pin(i, true);
        }
        for (int i = 1; i <= 3; i++) {
            yard.stress(i, i - 2);
        }
        same(true, yard.isProper(), "all three are bars");
        same(4, yard.member(2, 0, Stresswork.BAR), "the ends can have a member again");
        CHECK.eachRefused(Check.INDEX, Yards::busy, "split", List.of(
                y -> y.split(1, 0, 0, 0), y -> y.split(6, 1, 0, 0), y -> y.split(11, 0, 0, 0),
                y -> y.split(-1, 0, 0, 0), y -> y.split(0, 6, 0, 0), y -> y.split(0, -1, 0, 0),
                y -> y.split(0, 6, 99, 0)));
        CHECK.eachRefused(Check.ARGUMENT, Yards::busy, "split", List.of(
                y -> y.split(0, 0, 0, 0), y -> y.split(0, 1, 0, 0), y -> y.split(0, 2, 51, 0),
                y -> y.split(0, 2, -51, 0), y -> y.split(0, 2, 0, 51), y -> y.split(0, 2, 0, -51)));
        Supplier<Stresswork> full = () -> {
            Stresswork ten = Yards.loose(10);
            ten.member(0, 1, Stresswork.BAR);
            return ten;
        };
        CHECK.refused(Check.STATE, full, y -> y.split(0, 2, 0, 0), "split with ten joints");
        CHECK.refused(Check.ARGUMENT, full, y -> y.split(0, 1, 0, 0), "split with ten, to an end");
        CHECK.refused(Check.ARGUMENT, full, y -> y.split(0, 2, 51, 0), "split with ten, out of range");
    }

    private static void stepRoom() {
        same(4, Yards.used(38).grow(2, 3, 0, 0), "grow where 38 were set");
        CHECK.refused(Check.STATE, () -> Yards.used(39), y -> y.grow(2, 3, 0, 0), "grow where 39 were set");
        same(4, Yards.used(37).split(36, 3, 0, 0), "split where 37 were set");
        CHECK.refused(Check.STATE, () -> Yards.used(38), y -> y.split(37, 3, 0, 0), "split where 38 were set");
    }

    private static void undo() {
        Stresswork yard = Yards.square();
        yard.grow(0, 2, 5, 5);
        yard.pin(0, true);
        yard.range(4, 17);
        yard.grow(4, 1, 6, 6);
        yard.pin(5, true);
        yard.pin(5, false);
        same(1, yard.undo(), "steps left");
        same("IndexOutOfBoundsException", Observed.answer(yard, y -> y.ofJoint(5, 0)), "the joint is gone");
        same(2, yard.ofJoint(4, 2), "its bars are gone at the other ends");
        same(0, yard.undo(), "no steps left");
        same(4, yard.kept(), "all bars are gone");
        same(14641, yard.places(0), "the range is gone with its joint");
        same(4, yard.joint(-8, 8), "the number comes again");
        same(-8, yard.ofJoint(4, 0), "for another joint");
        same(Stresswork.NONE, yard.range(4, 3), "without a range");
        same(8, yard.member(4, 0, Stresswork.BAR), "the numbers of bars do not come again");
        same("IndexOutOfBoundsException", Observed.answer(yard, y -> y.remove(7)), "a bar that is gone");
        Stresswork many = Yards.loose(2);
        for (int i = 0; i < 20; i++) {
            same(2, many.grow(0, 1, i, i), "grown once more");
            same(0, many.undo(), "undone once more");
        }
        same("IllegalStateException", Observed.answer(many, y -> y.grow(0, 1, 0, 0)), "forty were set");
    }

    private static void undoRefused() {
        Supplier<Stresswork> grown = () -> {
            Stresswork yard = Yards.square();
            yard.grow(0, 2, 5, 5);
            return yard;
        };
        CHECK.refused(Check.STATE, Yards::square, Stresswork::undo, "undo without a step");
        CHECK.refused(Check.STATE, () -> {
            Stresswork yard = grown.get();
            yard.joint(1, 1);
            return yard;
        }, Stresswork::undo, "undo when the joint is not the last one");
        CHECK.refused(Check.STATE, () -> {
            Stresswork yard = grown.get();
            yard.pin(4, true);
            return yard;
        }, Stresswork::undo, "undo when the joint is pinned");
        CHECK.refused(Check.STATE, () -> {
            Stresswork yard = grown.get();
            yard.member(4, 1, Stresswork.BAR);
            return yard;
        }, Stresswork::undo, "undo when the joint has a member more");
        CHECK.refused(Check.STATE, () -> {
            Stresswork yard = grown.get();
            yard.remove(4);
            return yard;
        }, Stresswork::undo, "undo when a bar is gone");
        CHECK.refused(Check.STATE, () -> {
            Stresswork yard = grown.get();
            yard.remove(5);
            yard.member(2, 4, Stresswork.BAR);
            return yard;
        }, Stresswork::undo, "undo when a bar was set again, by another number");
        Stresswork yard = grown.get();
        yard.pin(4, true);
        same("IllegalStateException", Observed.answer(yard, Stresswork::undo), "pinned");
        yard.pin(4, false);
        yard.move(4, 9, 9);
        yard.stress(4, 5);
        same(0, yard.undo(), "undo when the pin was taken out again");
    }

    private static void undoOfSplits() {
        Stresswork yard = Yards.braced();
        yard.stress(4, 9);
        same(4, yard.split(4, 1, 3, 3), "split of a cable");
        same(0, yard.undo(), "undo of a split");
        same(true, yard.isKept(4), "the member is back, by its number");
        same(false, yard.isKept(5), "looked at ahead of later ones");
        same(9, yard.stress(4, -1), "with the stress that was told");
        same(false, yard.isProper(), "as a cable");
        yard.split(4, 1, 3, 3);
        int another = yard.member(2, 0, Stresswork.STRUT);
        same(0, yard.undo(), "undo when the ends have another one");
        same("IndexOutOfBoundsException", Observed.answer(yard, y -> y.isKept(4)), "it is gone then");
        yard.remove(another);
        same("IndexOutOfBoundsException", Observed.answer(yard, y -> y.isKept(4)), "for good");
        Stresswork nested = Yards.loose(3);
        nested.grow(0, 1, 4, 4);
        nested.split(1, 2, 5, 5);
        nested.split(4, 0, 6, 6);
        same(2, nested.undo(), "the last of three steps");
        same(true, nested.isKept(4), "the bar of the second step is back");
        same(1, nested.undo(), "the second of three steps");
        same(true, nested.isKept(1), "the bar of the first step is back");
        same(0, nested.undo(), "the first of three steps");
        same(0, nested.kept(), "nothing is left");
        Stresswork lost = Yards.loose(3);
        lost.grow(0, 1, 4, 4);
        lost.split(1, 2, 5, 5);
        lost.member(1, 3, Stresswork.BAR);
        same(1, lost.undo(), "a split bar whose ends have another one");
        same("IllegalStateException", Observed.answer(lost, Stresswork::undo), "its own step is lost");
        Stresswork third = Yards.loose(3);
        third.member(0, 1, Stresswork.BAR);
        third.split(0, 2, 5, 5);
        third.remove(3);
        same("IllegalStateException", Observed.answer(third, Stresswork::undo), "the third bar is gone");
    }

    private static void stress() {
        Stresswork yard = Yards.braced();
        same(0, yard.stress(3, 99), "no stress at first");
        same(99, yard.stress(3, -99), "the one before");
        same(-99, yard.stress(3, 0), "the one before that");
        yard.stress(1, 5);
        yard.remove(1);
        int again = yard.member(1, 2, Stresswork.BAR);
        same(0, yard.stress(again, 1), "a new member has none");
        CHECK.eachRefused(Check.INDEX, Yards::busy, "stress", List.of(
                y -> y.stress(1, 0), y -> y.stress(6, 0), y -> y.stress(11, 0), y -> y.stress(-1, 0),
                y -> y.stress(11, 100)));
        CHECK.eachRefused(Check.ARGUMENT, Yards::busy, "stress", List.of(
                y -> y.stress(0, 100), y -> y.stress(0, -100), y -> y.stress(0, Integer.MIN_VALUE)));
    }

    private static void unbalanced() {
        Stresswork yard = Yards.braced();
        same(0, yard.unbalanced(), "nothing is told");
        yard.stress(0, 3);
        same(3, yard.unbalanced(), "the ends of a stress");
        yard.pin(1, true);
        same(1, yard.unbalanced(), "a pinned one does not count");
        yard.pin(1, false);
        for (int i = 0; i < 4; i++) {
            yard.stress(i, -3);
        }
        same(15, yard.unbalanced(), "without diagonals");
        yard.stress(4, 3);
        same(10, yard.unbalanced(), "with one diagonal");
        yard.stress(5, 3);
        same(0, yard.unbalanced(), "with both");
        yard.move(2, 20, 21);
        same(15, yard.unbalanced(), "after a move");
        yard.remove(5);
        yard.remove(4);
        yard.remove(0);
        yard.remove(1);
        yard.remove(2);
        same(9, yard.unbalanced(), "members that are gone do not count");
        Stresswork line = new Stresswork();
        line.joint(0, 0);
        line.joint(0, 10);
        line.joint(0, 15);
        line.member(0, 1, Stresswork.BAR);
        line.member(1, 2, Stresswork.BAR);
        line.stress(0, 1);
        line.stress(1, 2);
        same(5, line.unbalanced(), "y is in balance at the middle one");
    }

    private static void isProper() {
        Stresswork yard = Yards.braced();
        same(false, yard.isProper(), "nothing is told");
        for (int i = 0; i < 4; i++) {
            yard.stress(i, -3);
        }
        yard.stress(4, 3);
        yard.stress(5, 3);
        same(false, yard.isProper(), "a strut above 0");
        for (int i = 0; i < 4; i++) {
            yard.stress(i, 3);
        }
        yard.stress(4, -3);
        yard.stress(5, -3);
        same(false, yard.isProper(), "a cable below 0");
        Stresswork right = Yards.square();
        right.member(0, 2, Stresswork.CABLE);
        right.member(1, 3, Stresswork.CABLE);
        for (int i = 0; i < 4; i++) {
            right.stress(i, -3);
        }
        right.stress(4, 3);
        same(false, right.isProper(), "not balanced");
        right.stress(5, 3);
        same(true, right.isProper(), "balanced, cables above 0");
        right.remove(0);
        right.member(0, 1, Stresswork.STRUT);
        same(false, right.isProper(), "not balanced with a new member");
        right.stress(6, -3);
        same(true, right.isProper(), "balanced with a strut below 0");
        for (int i = 0; i < 4; i++) {
            right.pin(i, true);
        }
        right.stress(6, 0);
        same(true, right.isProper(), "a strut of 0, all pinned");
        right.stress(6, 1);
        same(false, right.isProper(), "a strut above 0, all pinned");
        right.remove(6);
        same(true, right.isProper(), "a member that is gone does not count");
        Stresswork gone = Yards.loose(2);
        gone.member(0, 1, Stresswork.BAR);
        gone.pin(0, true);
        gone.pin(1, true);
        gone.stress(0, 4);
        same(true, gone.isProper(), "a stress between pins");
        gone.remove(0);
        same(false, gone.isProper(), "no stress is left");
    }

    private static void matrix() {
        Stresswork yard = Yards.braced();
        same(0, yard.matrix(), "nothing is told");
        yard.stress(0, 1);
        same(1, yard.matrix(), "one stress");
        yard.stress(2, 1);
        same(2, yard.matrix(), "two stresses apart");
        yard.stress(1, 1);
        same(3, yard.matrix(), "a path of stresses");
        yard.pin(1, true);
        same(3, yard.matrix(), "pins do not matter");
        for (int i = 0; i < 4; i++) {
            yard.stress(i, -3);
        }
        yard.stress(4, 3);
        yard.stress(5, 3);
        same(1, yard.matrix(), "a stress that balances");
        yard.remove(5);
        same(2, yard.matrix(), "a member that is gone does not count");
        Stresswork line = Yards.loose(3);
        line.member(0, 1, Stresswork.BAR);
        line.member(1, 2, Stresswork.BAR);
        line.member(0, 2, Stresswork.BAR);
        line.stress(0, 2);
        line.stress(1, 2);
        line.stress(2, -1);
        same(1, line.matrix(), "two of a kind against one");
    }

    private static void reaches() {
        Stresswork yard = new Stresswork();
        same(true, yard.reaches(3, 4, 5, 12), "all of the chain");
        same(false, yard.reaches(3, 4, 5, 13), "more than the chain");
        same(true, yard.reaches(3, 4, 5, 0), "it closes");
        same(true, yard.reaches(10, 2, 3, 5), "the longest first");
        same(false, yard.reaches(10, 2, 3, 4), "too near");
        same(true, yard.reaches(2, 10, 3, 5), "the longest second");
        same(false, yard.reaches(2, 10, 3, 4), "too near");
        same(true, yard.reaches(2, 3, 10, 5), "the longest third");
        same(false, yard.reaches(2, 3, 10, 4), "too near");
        same(true, yard.reaches(2, 3, 5, 0), "just closed");
        same(true, yard.reaches(0, 0, 0, 0), "no links");
        same(true, yard.reaches(1000000, 1000000, 1000000, 3000000), "the longest chain");
        same(false, yard.reaches(1000000, 1000000, 999999, 3000000), "a chain that is too short");
        CHECK.eachRefused(Check.ARGUMENT, Yards::busy, "reaches", List.of(
                y -> y.reaches(-1, 0, 0, 0), y -> y.reaches(0, -1, 0, 0), y -> y.reaches(0, 0, -1, 0),
                y -> y.reaches(0, 0, 0, -1), y -> y.reaches(1000001, 0, 0, 0), y -> y.reaches(0, 1000001, 0, 0),
                y -> y.reaches(0, 0, 1000001, 0), y -> y.reaches(0, 0, 0, 3000001)));
    }

    private static void folds() {
        Stresswork yard = new Stresswork();
        int[] due = {3, 0, 0, 3, 0, 3, 3, 0, 0, 3, 3, 0, 3, 0, 0, 3};
        for (int i = 0; i < 16; i++) {
            same(due[i], yard.folds(90, 90, 90, 90, i), "mountains " + i);
        }
        same(Stresswork.FLAT, yard.folds(60, 70, 120, 110, 14), "folds flat");
        same(Stresswork.FLAT, yard.folds(179, 1, 1, 179, 1), "small angles");
        same(Stresswork.NOT_ROUND, yard.folds(90, 90, 90, 91, 3), "not round first");
        same(Stresswork.NOT_ROUND, yard.folds(90, 91, 90, 90, 1), "not round");
        same(Stresswork.NOT_EVEN, yard.folds(80, 90, 90, 100, 3), "not even second");
        same(Stresswork.NOT_EVEN, yard.folds(90, 90, 91, 89, 1), "not even");
        same(Stresswork.NOT_ROUND, yard.folds(359, 359, 359, 359, 0), "the widest angles");
        same(Stresswork.NOT_ROUND, yard.folds(1, 1, 1, 1, 15), "the narrowest angles");
        CHECK.eachRefused(Check.ARGUMENT, Yards::busy, "folds", List.of(
                y -> y.folds(0, 90, 90, 90, 1), y -> y.folds(90, 0, 90, 90, 1), y -> y.folds(90, 90, 0, 90, 1),
                y -> y.folds(90, 90, 90, 0, 1), y -> y.folds(360, 90, 90, 90, 1), y -> y.folds(90, 360, 90, 90, 1),
                y -> y.folds(90, 90, 360, 90, 1), y -> y.folds(90, 90, 90, 360, 1),
                y -> y.folds(90, 90, 90, 90, 16), y -> y.folds(90, 90, 90, 90, -1)));
    }

    private static void range() {
        Stresswork yard = Yards.square();
        same(Stresswork.NONE, yard.range(1, 0), "no range at first");
        same(0, yard.range(1, 30000), "the one before");
        same(30000, yard.range(1, Stresswork.NONE), "taken back");
        same(Stresswork.NONE, yard.range(1, Stresswork.NONE), "none again");
        same(14641, yard.places(0), "no range is left");
        CHECK.eachRefused(Check.INDEX, Yards::busy, "range", List.of(
                y -> y.range(6, 0), y -> y.range(-1, 0), y -> y.range(6, 30001)));
        CHECK.eachRefused(Check.ARGUMENT, Yards::busy, "range", List.of(
                y -> y.range(0, -2), y -> y.range(0, 30001), y -> y.range(0, Integer.MIN_VALUE)));
    }

    private static void places() {
        Stresswork yard = Yards.square();
        yard.range(0, 25);
        same(12, yard.places(0), "whole points at a distance of 5");
        same(9, withRange(yard, 0, 0).places(2), "points within a square of 2");
        same(1, yard.places(0), "the joint's own point");
        yard.range(0, 25);
        yard.range(1, 25 + 400 - 40 * 3);
        same(2, yard.places(0), "two circles");
        yard.range(2, 17 * 17 + 16 * 16);
        same(1, yard.places(0), "three circles");
        yard.move(2, 21, 20);
        same(0, yard.places(0), "a range is to where the joint is now");
        same(14641, Yards.loose(3).places(5000), "without ranges all fit");
        same(1, corner().places(0), "a corner");
        CHECK.eachRefused(Check.ARGUMENT, Yards::busy, "places", List.of(
                y -> y.places(-1), y -> y.places(5001)));
    }

    private static Stresswork withRange(Stresswork yard, int joint, int square) {
        yard.range(joint, square);
        return yard;
    }

    private static Stresswork corner() {
        Stresswork yard = new Stresswork();
        yard.joint(50, 50);
        yard.range(0, 24200);
        return yard;
    }

    private static void place() {
        Stresswork yard = new Stresswork();
        same(0, yard.place(0, 0), "the first of all");
        same(1, yard.place(0, 1), "the next by y");
        same(1000, yard.place(0, 121), "the next by x");
        same(120120, yard.place(5000, 14640), "the last of all");
        same(Stresswork.NONE, yard.place(0, 14641), "none behind it");
        same(Stresswork.NONE, yard.place(0, Integer.MAX_VALUE), "none far behind it");
        same(0, corner().place(0, 0), "the corner");
        Stresswork ring = Yards.square();
        ring.range(1, 1);
        same(79060, ring.place(0, 0), "the first at a distance of 1");
        same(80059, ring.place(0, 1), "the second");
        same(80061, ring.place(0, 2), "the third");
        same(81060, ring.place(0, 3), "the last");
        same(Stresswork.NONE, ring.place(0, 4), "none more");
        same(80060, ring.place(1, 4), "with an error more fit");
        CHECK.eachRefused(Check.INDEX, Yards::busy, "place", List.of(
                y -> y.place(0, -1), y -> y.place(-1, -1), y -> y.place(5001, Integer.MIN_VALUE)));
        CHECK.eachRefused(Check.ARGUMENT, Yards::busy, "place", List.of(
                y -> y.place(-1, 0), y -> y.place(5001, 0)));
    }

    private static void ofJoint() {
        Stresswork yard = Yards.braced();
        same(20, yard.ofJoint(1, 0), "x");
        same(0, yard.ofJoint(1, 1), "y");
        same(3, yard.ofJoint(1, 2), "members");
        yard.pin(1, true);
        same(3, yard.ofJoint(1, 2), "members of a pinned joint");
        CHECK.eachRefused(Check.INDEX, Yards::busy, "ofJoint", List.of(
                y -> y.ofJoint(6, 0), y -> y.ofJoint(-1, 0), y -> y.ofJoint(6, 3)));
        CHECK.eachRefused(Check.ARGUMENT, Yards::busy, "ofJoint", List.of(
                y -> y.ofJoint(0, 3), y -> y.ofJoint(0, -1), y -> y.ofJoint(0, Integer.MAX_VALUE)));
    }
}
