import java.util.function.BiFunction;
import java.util.function.Function;
import java.util.function.Supplier;

/** That a roll, made anew for each call, refuses calls, and that all is then as it was. */
final class Refusals {
    private final Supplier<CountedRoll> maker;
    private final String before;

    Refusals(Supplier<CountedRoll> maker) {
        this.maker = maker;
        before = Look.at(maker.get());
    }

    void of(String what, String exception, Function<CountedRoll, Object> call) {
        CountedRoll roll = maker.get();
        Due.answers(what, exception, () -> call.apply(roll));
        Due.is(what + " changed nothing", before, Look.at(roll));
    }

    /** What is just outside of a range, far outside, and what wraps around into it if its upper bits are lost. */
    void outside(String what, String exception, int least, int greatest,
            BiFunction<CountedRoll, Integer, Object> call) {
        of(what + " " + (least - 1), exception, roll -> call.apply(roll, least - 1));
        of(what + " " + (greatest + 1), exception, roll -> call.apply(roll, greatest + 1));
        for (int value : new int[] {Integer.MIN_VALUE, Integer.MAX_VALUE, Integer.MIN_VALUE + greatest,
            greatest - 65536, least + 65536, greatest + 1024, greatest + 256, least + 256, least + 32}) {
            if (value < least || value > greatest) {
                of(what + " " + value, exception, roll -> call.apply(roll, value));
            }
        }
    }

    /** That the least and the greatest value of a range are taken, whatever is answered. */
    void inside(String what, int least, int greatest, BiFunction<CountedRoll, Integer, Object> call) {
        for (int value : new int[] {least, greatest}) {
            CountedRoll roll = maker.get();
            String answer = Due.answerOf(() -> call.apply(roll, value));
            Due.is(what + " " + value + " is taken", false, answer.equals(Due.INDEX) || answer.equals(Due.ARGUMENT));
        }
    }
}
