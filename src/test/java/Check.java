import java.util.List;
import java.util.function.Consumer;
import java.util.function.Supplier;

/** Counts what is as due and what is not, for the tests of this project. */
final class Check {
    static final Class<?> INDEX = IndexOutOfBoundsException.class;
    static final Class<?> ARGUMENT = IllegalArgumentException.class;
    static final Class<?> STATE = IllegalStateException.class;

    private String sentence = "";
    private int right = 0;
    private int wrong = 0;

    /** What is checked from here on is of this sentence of the document. */
    void sentence(String words) {
        sentence = "\"" + words + "\": ";
    }

    void same(Object due, Object got, String what) {
        if (due.equals(got)) {
            right++;
        } else {
            wrong++;
            if (wrong <= 50) {
                System.out.println(sentence + what + " answered " + got + ", due is " + due);
            }
        }
    }

    /** The exception is the one that is due, and the object answers as one that did not get the call. */
    void refused(Class<?> due, Supplier<Stresswork> yard, Consumer<Stresswork> call, String what) {
        Stresswork called = yard.get();
        same(due.getSimpleName(), thrown(called, call), what);
        same(Observed.everything(yard.get()), Observed.everything(called), what + ", then all answers");
    }

    void eachRefused(Class<?> due, Supplier<Stresswork> yard, String what, List<Consumer<Stresswork>> calls) {
        for (int i = 0; i < calls.size(); i++) {
            refused(due, yard, calls.get(i), what + ", wrong input " + i);
        }
    }

    /** What each call throws, without a look at the rest: the yard is the one that is asked on. */
    void eachThrows(Class<?> due, Stresswork yard, String what, List<Consumer<Stresswork>> calls) {
        for (int i = 0; i < calls.size(); i++) {
            same(due.getSimpleName(), thrown(yard, calls.get(i)), what + ", call " + i);
        }
    }

    static String thrown(Stresswork yard, Consumer<Stresswork> call) {
        return Observed.answer(yard, given -> {
            call.accept(given);
            return "nothing thrown";
        });
    }

    void end(String name) {
        System.out.println(name + ": " + right + " right, " + wrong + " wrong");
        if (wrong != 0 || right == 0) {
            System.exit(1);
        }
    }
}
