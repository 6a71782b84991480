/** Writes down all that can be asked of a roll without telling it anything. Meant for rolls of few mentions. */
final class Look {
    private Look() {
    }

    static String at(OfficeholdersRoll roll) {
        int mentions = countMentions(roll);
        int persons = countPersons(roll);
        StringBuilder text = new StringBuilder();
        text.append(mentions).append(" mentions, ").append(persons).append(" persons\n");
        for (int one = 0; one < mentions; one++) {
            text.append(one).append(": ").append(roll.year(one, false)).append(' ').append(roll.year(one, true));
            text.append(' ').append(roll.yearAnew(one, false)).append(' ').append(roll.yearAnew(one, true));
            text.append(" of ").append(roll.person(one)).append('\n');
            for (int other = one + 1; other < mentions; other++) {
                text.append(roll.weight(one, other)).append('/').append(roll.whyNot(one, other)).append(' ');
            }
        }
        for (int person = 0; person < persons; person++) {
            text.append(person).append(" leads to ").append(roll.entry(person));
            text.append(", size ").append(roll.size(person)).append(", breaches ").append(roll.breaches(person));
            text.append(", career").append(careerOf(roll, person)).append('\n');
        }
        int few = (1 << Math.min(mentions, 6)) - 1;
        text.append("best ").append(roll.best(few)).append(' ').append(roll.bestAnew(few));
        text.append(", differ ").append(roll.differ());
        return text.toString();
    }

    static String careerOf(OfficeholdersRoll roll, int person) {
        StringBuilder text = new StringBuilder();
        for (int place = 0; place <= 16; place++) {
            int mention = roll.careerAt(person, place);
            if (mention == OfficeholdersRoll.NONE) {
                break;
            }
            text.append(' ').append(mention);
        }
        return text.toString();
    }

    static int countMentions(OfficeholdersRoll roll) {
        int count = 0;
        while (count <= 16) {
            int mention = count;
            if (Due.answerOf(() -> roll.person(mention)).equals(Due.INDEX)) {
                break;
            }
            count++;
        }
        return count;
    }

    static int countPersons(OfficeholdersRoll roll) {
        int count = 0;
        while (count <= 40) {
            int person = count;
            if (Due.answerOf(() -> roll.entry(person)).equals(Due.INDEX)) {
                break;
            }
            count++;
        }
        return count;
    }
}
