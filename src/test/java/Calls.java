import java.util.List;
import java.util.function.Consumer;

/** Every call that takes a joint's or a member's number, all else that it takes in range. */
final class Calls {
    private Calls() {
    }

    /** Joint 0 and member 0 stand for the others that a call takes. */
    static List<Consumer<Stresswork>> withJoint(int joint) {
        return List.of(
                y -> y.move(joint, 0, 0), y -> y.pin(joint, true), y -> y.member(joint, 0, 0),
                y -> y.member(0, joint, 0), y -> y.flex(0, joint, false), y -> y.grow(joint, 0, 0, 0),
                y -> y.grow(0, joint, 0, 0), y -> y.split(0, joint, 0, 0), y -> y.range(joint, 0),
                y -> y.ofJoint(joint, 0));
    }

    /** Joint 2 stands for the third one of a split. */
    static List<Consumer<Stresswork>> withMember(int member) {
        return List.of(
                y -> y.remove(member), y -> y.isRedundant(member), y -> y.balance(0, member),
                y -> y.isKept(member), y -> y.block(member), y -> y.split(member, 2, 0, 0),
                y -> y.stress(member, 0));
    }
}
