/** Rolls to begin a test with. */
final class Rolls {
    private Rolls() {
    }

    /** Mentions of which any two weigh 8: each of the name, family, place and post 0. */
    static OfficeholdersRoll alike(int mentions) {
        OfficeholdersRoll roll = new OfficeholdersRoll();
        for (int k = 0; k < mentions; k++) {
            roll.mention(0, 0, 0, 0);
        }
        return roll;
    }
}
