import java.util.function.Function;

/** What can be seen of an object: all answers in one text. It is of no use afterwards. */
final class Observed {
    private static final int JOINTS = 10;
    private static final int MEMBERS = 40;
    private static final String NO_SUCH = "IndexOutOfBoundsException";

    private final Stresswork yard;
    private final StringBuilder text = new StringBuilder();

    private Observed(Stresswork yard) {
        this.yard = yard;
    }

    /** The answer of a call, or the simple name of what it threw. */
    static String answer(Stresswork yard, Function<Stresswork, Object> call) {
        try {
            return String.valueOf(call.apply(yard));
        } catch (RuntimeException thrown) {
            return thrown.getClass().getSimpleName();
        }
    }

    static String everything(Stresswork yard) {
        Observed observed = new Observed(yard);
        observed.frame();
        for (int joint = 0; joint < JOINTS; joint++) {
            observed.jointAt(joint);
        }
        for (int member = 0; member < MEMBERS; member++) {
            observed.memberAt(member);
        }
        observed.kinds();
        observed.steps();
        observed.numbersToCome();
        return observed.text.toString();
    }

    private String tell(Function<Stresswork, Object> call) {
        String got = answer(yard, call);
        text.append(' ').append(got);
        return got;
    }

    private void frame() {
        tell(Stresswork::rank);
        tell(Stresswork::motions);
        tell(Stresswork::stresses);
        tell(given -> given.rankAt(5));
        tell(Stresswork::kept);
        tell(Stresswork::lacks);
        tell(Stresswork::isGlobal);
        tell(Stresswork::unbalanced);
        tell(Stresswork::isProper);
        tell(Stresswork::matrix);
        tell(given -> given.places(0));
        tell(given -> given.places(400));
        tell(given -> given.place(400, 0));
    }

    private void jointAt(int joint) {
        text.append("\njoint ").append(joint);
        if (!tell(given -> given.ofJoint(joint, 0)).equals(NO_SUCH)) {
            tell(given -> given.ofJoint(joint, 1));
            tell(given -> given.ofJoint(joint, 2));
            tell(given -> given.flex(0, joint, false));
            tell(given -> given.flex(0, joint, true));
            tell(given -> given.range(joint, Stresswork.NONE));
        }
    }

    private void memberAt(int member) {
        text.append("\nmember ").append(member);
        if (!tell(given -> given.isKept(member)).equals(NO_SUCH)) {
            tell(given -> given.balance(0, member));
            tell(given -> given.stress(member, 0));
        }
    }

    /** With all joints pinned and one stress alone, only the kind decides what is proper. */
    private void kinds() {
        boolean[] pinned = new boolean[JOINTS];
        for (int joint = 0; joint < JOINTS; joint++) {
            int asked = joint;
            pinned[joint] = tell(given -> given.pin(asked, true)).equals("true");
        }
        for (int member = 0; member < MEMBERS; member++) {
            kindOf(member);
        }
        for (int joint = 0; joint < JOINTS; joint++) {
            int asked = joint;
            tell(given -> given.pin(asked, pinned[asked]));
        }
    }

    private void kindOf(int member) {
        if (!tell(given -> given.stress(member, 1)).equals(NO_SUCH)) {
            tell(Stresswork::isProper);
            tell(given -> given.stress(member, -1));
            tell(Stresswork::isProper);
            tell(given -> given.stress(member, 0));
        }
    }

    private void steps() {
        text.append("\nsteps");
        for (int i = 0; i < JOINTS; i++) {
            if (tell(Stresswork::undo).equals("IllegalStateException")) {
                return;
            }
        }
    }

    private void numbersToCome() {
        text.append("\nthen");
        for (int member = 0; member < MEMBERS; member++) {
            int asked = member;
            tell(given -> given.remove(asked));
        }
        tell(given -> given.joint(1, 1));
        tell(given -> given.member(0, 1, Stresswork.BAR));
    }
}
