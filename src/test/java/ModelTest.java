import java.util.function.Supplier;

/** Drawn runs of calls, each call's answer compared with that of the model; the draws are always the same. */
public final class ModelTest {
    private static final int RUNS = 400;
    private static final int CALLS = 512;
    private static final Check CHECK = new Check();

    private long seed;
    private Stresswork yard;
    private Model model;
    private int calls;
    private boolean dense;
    private String run;

    private ModelTest() {
    }

    public static void main(String[] args) {
        ModelTest test = new ModelTest();
        for (int i = 0; i < RUNS; i++) {
            test.run(i);
        }
        CHECK.end("ModelTest");
    }

    private void run(int number) {
        seed = 77777L * number + 1;
        yard = new Stresswork();
        model = new Model();
        calls = 0;
        dense = number % 3 == 0;
        int first = dense ? 4 + draw(7) : draw(4);
        for (int i = 0; i < first && i < 10; i++) {
            tell(0);
        }
        while (calls < CALLS - 60) {
            run = "run " + number + ", call " + calls;
            tell(draw(100) < 60 ? draw(16) : 16 + draw(20));
        }
    }

    private int draw(int below) {
        seed = seed * 6364136223846793005L + 1442695040888963407L;
        return (int) ((seed >>> 33) % below);
    }

    /** Mostly a number within, now and then one just outside or far away. */
    private int near(int least, int most) {
        int kind = draw(40);
        if (kind == 0) {
            return least - 1;
        }
        if (kind == 1) {
            return most + 1;
        }
        if (kind == 2) {
            return draw(2) == 0 ? Integer.MIN_VALUE : Integer.MAX_VALUE;
        }
        if (kind < 6) {
            return draw(2) == 0 ? least : most;
        }
        return most < least ? least : least + draw(most - least + 1);
    }

    private int coordinate() {
        // Few points, so that lines, parallels and joints at one point happen.
        return draw(3) == 0 ? near(-50, 50) : 5 * (draw(7) - 3);
    }

    private int aJoint() {
        return near(0, Math.max(0, model.joints.size() - 1));
    }

    private int aMember() {
        int most = Math.max(0, model.members.size() - 1);
        for (int i = 0; i < 6; i++) {
            int member = near(0, most);
            if (model.isMember(member) || draw(8) == 0) {
                return member;
            }
        }
        return near(0, most);
    }

    private void compare(String call, Supplier<Object> due, Supplier<Object> got) {
        calls++;
        CHECK.same(answer(due), answer(got), run + ", " + call);
    }

    private static String answer(Supplier<Object> call) {
        try {
            return String.valueOf(call.get());
        } catch (RuntimeException thrown) {
            return thrown.getClass().getSimpleName();
        }
    }

    private void tell(int kind) {
        int a = aJoint();
        int b = aJoint();
        int m = aMember();
        int x = coordinate();
        int y = coordinate();
        switch (kind) {
            case 0, 1 -> compare("joint", () -> model.joint(x, y), () -> yard.joint(x, y));
            case 2, 3 -> compare("move", () -> model.move(a, x, y), () -> {
                yard.move(a, x, y);
                return 0;
            });
            case 4 -> {
                boolean pinned = draw(4) == 0;
                compare("pin", () -> model.pin(a, pinned), () -> yard.pin(a, pinned));
            }
            case 5, 6, 7, 8, 9 -> {
                int type = near(0, 2);
                compare("member", () -> model.member(a, b, type), () -> yard.member(a, b, type));
            }
            case 10 -> {
                if (!dense || draw(5) == 0) {
                    compare("remove", () -> model.remove(m), () -> yard.remove(m));
                }
            }
            case 11 -> compare("grow", () -> model.grow(a, b, x, y), () -> yard.grow(a, b, x, y));
            case 12 -> compare("split", () -> model.split(m, a, x, y), () -> yard.split(m, a, x, y));
            case 13 -> compare("undo", () -> model.undo(), () -> yard.undo());
            case 14 -> tellStress(m);
            case 15 -> {
                int square = draw(4) == 0 ? near(-1, 30000) : draw(20) * draw(20);
                compare("range", () -> model.range(a, square), () -> yard.range(a, square));
            }
            default -> ask(kind, a, m);
        }
    }

    private void tellStress(int member) {
        int stress = draw(2) == 0 ? near(-99, 99) : draw(5) - 2;
        compare("stress", () -> model.stress(member, stress), () -> yard.stress(member, stress));
    }

    private void ask(int kind, int joint, int member) {
        switch (kind) {
            case 16 -> compare("rank", () -> model.rank(), () -> yard.rank());
            case 17 -> compare("motions", () -> model.motions(), () -> yard.motions());
            case 18 -> compare("stresses", () -> model.stresses(), () -> yard.stresses());
            case 19 -> compare("isRedundant", () -> model.isRedundant(member), () -> yard.isRedundant(member));
            case 20 -> askFlex();
            case 21 -> askBalance();
            case 22 -> {
                int drawn = near(0, 1000002);
                compare("rankAt", () -> model.rankAt(drawn), () -> yard.rankAt(drawn));
            }
            case 23 -> compare("kept", () -> model.kept(), () -> yard.kept());
            case 24 -> compare("isKept", () -> model.isKept(member), () -> yard.isKept(member));
            case 25, 26 -> compare("block", () -> model.block(member), () -> yard.block(member));
            case 27 -> compare("lacks", () -> model.lacks(), () -> yard.lacks());
            case 28 -> compare("isGlobal", () -> model.isGlobal(), () -> yard.isGlobal());
            case 29 -> compare("unbalanced", () -> model.unbalanced(), () -> yard.unbalanced());
            case 30 -> compare("isProper", () -> model.isProper(), () -> yard.isProper());
            case 31 -> compare("matrix", () -> model.matrix(), () -> yard.matrix());
            case 32 -> askSheets();
            case 33, 34 -> askPlaces();
            default -> {
                int what = near(0, 2);
                compare("ofJoint", () -> model.ofJoint(joint, what), () -> yard.ofJoint(joint, what));
            }
        }
    }

    private void askFlex() {
        int flexes = model.motions();
        int k = draw(flexes + 1);
        int columns = 0;
        for (int joint = 0; joint < model.joints.size(); joint++) {
            columns += model.joints.get(joint).pinned ? 0 : 2;
        }
        long[] moves = new long[columns];
        int column = 0;
        for (int joint = 0; joint < model.joints.size(); joint++) {
            int moved = joint;
            if (k >= flexes) {
                compare("flex of none", () -> -1, () -> yard.flex(k, moved, draw(2) == 0));
            } else if (model.joints.get(joint).pinned) {
                compare("flex at a pin", () -> 0, () -> yard.flex(k, moved, draw(2) == 0));
            } else {
                moves[column] = yard.flex(k, joint, false);
                moves[column + 1] = yard.flex(k, joint, true);
                column += 2;
                calls += 2;
            }
        }
        if (k < flexes) {
            CHECK.same(true, model.isFlex(k, moves), run + ", flex");
        }
    }

    private void askBalance() {
        int balances = model.stresses();
        int k = draw(balances + 1);
        long[] numbers = new long[model.present().size()];
        int row = 0;
        for (int member = 0; member < model.members.size(); member++) {
            int asked = member;
            if (!model.isMember(member)) {
                compare("balance of a gone one", () -> "IndexOutOfBoundsException", () -> yard.balance(k, asked));
            } else if (k >= balances) {
                compare("no balance", () -> -1, () -> yard.balance(k, asked));
            } else {
                numbers[row] = yard.balance(k, member);
                row++;
                calls++;
            }
        }
        if (k < balances) {
            CHECK.same(true, model.isBalance(k, numbers), run + ", balance");
        }
    }

    private void askSheets() {
        int a = near(1, 359);
        int b = near(1, 359);
        int c = draw(2) == 0 ? 180 - a : near(1, 359);
        int d = draw(2) == 0 ? 360 - a - b - c : near(1, 359);
        int mountains = near(0, 15);
        compare("folds", () -> model.folds(a, b, c, d, mountains), () -> yard.folds(a, b, c, d, mountains));
        int distance = draw(2) == 0 ? near(0, 3000000) : near(0, 800);
        compare("reaches", () -> model.reaches(a, b, c, distance), () -> yard.reaches(a, b, c, distance));
    }

    private void askPlaces() {
        int error = draw(2) == 0 ? near(0, 5000) : draw(60);
        int place = draw(3) == 0 ? near(0, 14641) : draw(12);
        compare("places", () -> model.places(error), () -> yard.places(error));
        compare("place", () -> model.place(error, place), () -> yard.place(error, place));
    }
}
