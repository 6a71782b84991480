import java.lang.management.ManagementFactory;

/** What an object and its calls take of the room in which a whole run lives: the calls make nothing at all. */
public final class RoomTest {
    private static final int ROUNDS = 18;
    private static final long MOST_BYTES_OF_OBJECT = 16384;
    private static final long MOST_BYTES_OF_CALLS = 256;

    private static final com.sun.management.ThreadMXBean ROOM =
            (com.sun.management.ThreadMXBean) ManagementFactory.getThreadMXBean();
    private static final long THREAD = Thread.currentThread().getId();

    public static void main(String[] args) {
        // the machine's own room for loading classes is not the program's
        callAll(new OfficeholdersRoll());
        long before = taken();
        OfficeholdersRoll roll = new OfficeholdersRoll();
        long made = taken();
        int answers = callAll(roll);
        long called = taken();
        Due.is("the object takes " + (made - before) + " bytes", true, made - before <= MOST_BYTES_OF_OBJECT);
        Due.is("the calls take " + (called - made) + " bytes", true, called - made <= MOST_BYTES_OF_CALLS);
        Due.is("the calls answered", true, answers != 0);
        Due.end();
    }

    private static long taken() {
        return ROOM.getThreadAllocatedBytes(THREAD);
    }

    private static int callAll(OfficeholdersRoll roll) {
        int answers = 0;
        for (int mention = 0; mention < 16; mention++) {
            answers += roll.mention(0, 0, 0, mention % 8);
        }
        for (int mention = 1; mention < 16; mention++) {
            answers += roll.ahead(mention - 1, mention, 1) + roll.join(0, mention);
        }
        for (int round = 0; round < ROUNDS; round++) {
            answers += roll.find(round % 16, round, 999) + roll.wouldMove(0, round, 900);
            answers += roll.year(3, true) + roll.yearAnew(15, false) + roll.yearAnew(0, true);
            answers += roll.rank(3, round % 10) + roll.weight(4, 5) + roll.whyNot(6, 7);
            answers += roll.split(round % 16) + roll.whyNot(round % 16, (round + 1) % 16);
            answers += roll.join(round % 16, (round + 1) % 16) + roll.person(3) + roll.entry(4) + roll.size(5);
            answers += roll.careerAt(0, round) + roll.breaches(0) + roll.degree(0, 15) + roll.rival(3, 4);
            answers += roll.best(63) + roll.bestAnew(63 << 10) + roll.differ();
            answers += roll.bar(0, 7, true) | roll.seal(0, 1) | roll.kin(0, 1) | roll.block(0, 1, false) ? 1 : 0;
        }
        return answers;
    }
}
