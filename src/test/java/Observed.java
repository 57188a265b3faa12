import java.util.function.Function;

/** What can be seen of an object: all answers in one text. It is of no use afterwards. */
final class Observed {
    private Observed() {
    }

    /** The answer of a call, or the simple name of what it threw. */
    static String answer(Stresswork yard, Function<Stresswork, Object> call) {
        try {
            return String.valueOf(call.apply(yard));
        } catch (RuntimeException thrown) {
            return thrown.getClass().getSimpleName();
        }
    }

    static String everything(Stresswork yard) {
        StringBuilder text = new StringBuilder();
        text.append(yard.rank()).append(' ').append(yard.motions()).append(' ').append(yard.stresses());
        text.append(' ').append(yard.rankAt(5)).append(' ').append(yard.kept()).append(' ').append(yard.lacks());
        text.append(' ').append(yard.isGlobal()).append(' ').append(yard.unbalanced());
        text.append(' ').append(yard.isProper()).append(' ').append(yard.matrix());
        for (int joint = 0; joint < 10; joint++) {
            jointOf(yard, joint, text);
        }
        for (int member = 0; member < 40; member++) {
            memberOf(yard, member, text);
        }
        text.append("\nend");
        for (int i = 0; i < 11; i++) {
            text.append(' ').append(answer(yard, Stresswork::undo));
        }
        text.append(' ').append(answer(yard, given -> given.joint(1, 1)));
        text.append(' ').append(answer(yard, given -> given.member(0, 1, Stresswork.BAR)));
        text.append(' ').append(yard.rank()).append(' ').append(yard.kept());
        return text.toString();
    }

    private static void jointOf(Stresswork yard, int joint, StringBuilder text) {
        String x = answer(yard, given -> given.ofJoint(joint, 0));
        if (x.equals("IndexOutOfBoundsException")) {
            return;
        }
        text.append("\njoint ").append(joint).append(": ").append(x);
        text.append(' ').append(yard.ofJoint(joint, 1)).append(' ').append(yard.ofJoint(joint, 2));
        text.append(' ').append(yard.flex(0, joint, false)).append(' ').append(yard.flex(0, joint, true));
        text.append(' ').append(yard.range(joint, Stresswork.NONE));
        boolean pinned = yard.pin(joint, false);
        yard.pin(joint, pinned);
        text.append(' ').append(pinned);
    }

    private static void memberOf(Stresswork yard, int member, StringBuilder text) {
        String kept = answer(yard, given -> given.isKept(member));
        if (kept.equals("IndexOutOfBoundsException")) {
            return;
        }
        text.append("\nmember ").append(member).append(": ").append(kept);
        text.append(' ').append(yard.isRedundant(member)).append(' ').append(yard.block(member));
        text.append(' ').append(yard.balance(0, member));
        int told = yard.stress(member, 7);
        text.append(' ').append(told).append(' ').append(yard.isProper());
        yard.stress(member, -7);
        text.append(' ').append(yard.isProper());
        yard.stress(member, told);
    }
}
