/** Promises 11 and 12: use, used. */
public final class UseTest {
    private static final long ONE = Samples.ONE;
    private static final long TWO = Samples.TWO;
    private static final long OTHER_ACCOUNT = Samples.OTHER_ACCOUNT;
    private static final int END = Integer.MAX_VALUE;

    public static void main(String[] args) {
        Answers answers = new Answers();
        answers.sentence("11: a number (1 .. 18 digits)", UseTest::eachLength);
        answers.sentence("11: illegal argument: the number is out of its bounds", UseTest::numberOutOfBounds);
        answers.sentence("11: illegal argument: the time is below 0", UseTest::timeBelowZero);
        answers.sentence("11: illegal argument: below that of an earlier use", UseTest::belowAnEarlierUse);
        answers.sentence("11: an earlier use, whatever it was answered", UseTest::belowAnyEarlierUse);
        answers.sentence("11: an earlier use of another account", UseTest::belowAnotherAccountsUse);
        answers.sentence("11: a use that was refused is no earlier one", UseTest::refusedUseIsNone);
        answers.sentence("11: up to the last time", UseTest::lastTime);
        answers.sentence("12: WINDOW ticks before a time or later", UseTest::windowOfUsed);
        answers.sentence("12: of an account's cards", UseTest::usedOfAnAccount);
        answers.sentence("12: answered by 0", UseTest::usedAnsweredByZero);
        answers.sentence("12: uses of cards that are blocked or have no route now", UseTest::usedOfCardsAsTheyWere);
        answers.sentence("12: of more uses than any window holds", UseTest::usedOfManyUses);
        answers.sentence("12: illegal argument: no such account", UseTest::noSuchAccount);
        answers.sentence("12: illegal argument: the time is below 0", UseTest::usedBelowZero);
        answers.sentence("12: illegal argument: the time is below that of the latest use", UseTest::usedBelowTheLatest);
        answers.sentence("12: it asks and changes nothing", UseTest::usedChangesNothing);
        answers.end();
    }

    private static void eachLength(Answers answers) {
        CardDirectory x = Samples.withCards(10, 2);
        long least = 4;
        long most = 4;
        for (int digits = 1; digits <= 18; digits++) {
            long low = least;
            long high = most;
            answers.due("use(" + low + ")", 14, () -> x.use(low, 0));
            answers.due("use(" + high + ")", 14, () -> x.use(high, 0));
            answers.due("use(" + (high + 1) + ")", 92, () -> x.use(high + 1, 0));
            least *= 10;
            most = most * 10 + 9;
        }
        answers.due("use(1)", 92, () -> x.use(1, 0));
        answers.due("use of 18 nines", 92, () -> x.use(Samples.LEAST_OF_19_DIGITS - 1, 0));
    }

    private static void numberOutOfBounds(Answers answers) {
        CardDirectory x = Samples.withCards(10, 2);
        x.route(1, 1, 1);
        x.route(1, 9, 1);
        x.route(1, 0, 1);
        for (long number : Samples.numbersOutOfBounds()) {
            answers.dueIllegalArgument("use(" + number + ", 0)", () -> x.use(number, 0));
        }
    }

    private static void timeBelowZero(Answers answers) {
        CardDirectory x = Samples.withCards(10, 2);
        for (int time : new int[] {-1, -10, -5000, Integer.MIN_VALUE}) {
            answers.dueIllegalArgument("a card at " + time, () -> x.use(ONE, time));
            answers.dueIllegalArgument("no card at " + time, () -> x.use(4, time));
            answers.dueIllegalArgument("no route at " + time, () -> x.use(5, time));
        }
        answers.due("at 0", 0, () -> x.use(ONE, 0));
        answers.due("none was counted but that one", 1, () -> x.used(0, 0));
    }

    private static void belowAnEarlierUse(Answers answers) {
        CardDirectory x = Samples.withCards(10, 8);
        answers.due("at 20", 0, () -> x.use(ONE, 20));
        for (int time : new int[] {19, 10, 0, -1}) {
            answers.dueIllegalArgument("at " + time, () -> x.use(ONE, time));
        }
        answers.due("at 20 again", 0, () -> x.use(ONE, 20));
        answers.due("at 21", 0, () -> x.use(ONE, 21));
        answers.dueIllegalArgument("at 20 then", () -> x.use(ONE, 20));
        answers.due("three were counted", 3, () -> x.used(0, 21));
    }

    private static void belowAnyEarlierUse(Answers answers) {
        long[] numbers = {5, ONE + 1, 4, TWO, ONE, ONE};
        int[] due = {92, 14, 14, 62, 0, 65};
        CardDirectory x = Samples.withCards(10, 1);
        x.block(1, true);
        for (int i = 0; i < numbers.length; i++) {
            long number = numbers[i];
            int time = 10 + i;
            answers.due("use answered by " + due[i], due[i], () -> x.use(number, time));
            answers.dueIllegalArgument("a card before it", () -> x.use(OTHER_ACCOUNT, time - 1));
            answers.dueIllegalArgument("the same before it", () -> x.use(number, time - 1));
            answers.dueIllegalArgument("used before it", () -> x.used(0, time - 1));
            answers.due("used at its time", due[i] == 0 || due[i] == 65 ? 1 : 0, () -> x.used(0, time));
        }
    }

    private static void belowAnotherAccountsUse(Answers answers) {
        CardDirectory x = Samples.withCards(10, 2);
        answers.due("account 1 at 7", 0, () -> x.use(OTHER_ACCOUNT, 7));
        answers.dueIllegalArgument("account 0 at 6", () -> x.use(ONE, 6));
        answers.due("account 0 at 7", 0, () -> x.use(ONE, 7));
    }

    private static void refusedUseIsNone(Answers answers) {
        CardDirectory x = Samples.withCards(10, 2);
        x.use(ONE, 8);
        answers.dueIllegalArgument("a wrong number, later", () -> x.use(0, 100));
        answers.dueIllegalArgument("another one, later", () -> x.use(Samples.LEAST_OF_19_DIGITS, END));
        answers.dueIllegalArgument("a time that is too low", () -> x.use(ONE, 7));
        answers.due("used at the time of the use", 1, () -> x.used(0, 8));
        answers.due("a use at that time", 0, () -> x.use(ONE, 8));
    }

    private static void lastTime(Answers answers) {
        CardDirectory x = Samples.withCards(5000, 1);
        answers.due("at 0", 0, () -> x.use(ONE, 0));
        answers.due("just within the window", 65, () -> x.use(ONE, 5000));
        answers.due("just past it", 0, () -> x.use(ONE, 5001));
        answers.due("used at the last time", 0, () -> x.used(0, END));
        answers.due("a window before the last time", 0, () -> x.use(ONE, END - 5000));
        answers.due("the last time", 65, () -> x.use(ONE, END));
        answers.due("another account at the last time", 0, () -> x.use(OTHER_ACCOUNT, END));
        answers.due("once more", 65, () -> x.use(OTHER_ACCOUNT, END));
        answers.due("used then", 1, () -> x.used(1, END));
        answers.dueIllegalArgument("used before it", () -> x.used(1, END - 1));
        answers.dueIllegalArgument("use before it", () -> x.use(ONE, END - 1));
    }

    private static void windowOfUsed(Answers answers) {
        for (int size : new int[] {1, 2, 10, 4999, 5000}) {
            int window = size;
            CardDirectory x = Samples.withCards(window, 8);
            x.use(ONE, 0);
            x.use(ONE, 1);
            x.use(ONE, 1);
            String name = "window " + window + ": ";
            answers.due(name + "at the latest use", 3, () -> x.used(0, 1));
            answers.due(name + "all are within", 3, () -> x.used(0, window));
            answers.due(name + "the first is past", 2, () -> x.used(0, window + 1));
            answers.due(name + "all are past", 0, () -> x.used(0, window + 2));
            answers.due(name + "at the last time", 0, () -> x.used(0, END));
        }
    }

    private static void usedOfAnAccount(Answers answers) {
        CardDirectory x = Samples.withAllFull(10, 8);
        for (int card = 0; card < Samples.MOST_CARDS; card++) {
            x.use(Samples.numberOfCard(card), 3);
        }
        for (int i = 0; i < Samples.MOST_ACCOUNTS; i++) {
            int account = i;
            // Cards 64 .. 99 are second cards of accounts 0 .. 35.
            answers.due("account " + i, i < 36 ? 2 : 1, () -> x.used(account, 3));
        }
    }

    private static void usedAnsweredByZero(Answers answers) {
        CardDirectory x = Samples.withCards(10, 2);
        x.block(1, true);
        answers.due("blocked", 62, () -> x.use(TWO, 1));
        answers.due("no card", 14, () -> x.use(ONE + 1, 1));
        answers.due("no route", 92, () -> x.use(5, 1));
        answers.due("used after these", 0, () -> x.used(0, 1));
        answers.due("done", 0, () -> x.use(ONE, 1));
        answers.due("used after one", 1, () -> x.used(0, 1));
        answers.due("done again", 0, () -> x.use(ONE, 1));
        answers.due("too often", 65, () -> x.use(ONE, 1));
        answers.due("used after two", 2, () -> x.used(0, 1));
    }

    private static void usedOfCardsAsTheyWere(Answers answers) {
        CardDirectory x = Samples.withCards(10, 2);
        x.use(ONE, 1);
        x.block(0, true);
        answers.due("blocked now", 1, () -> x.used(0, 1));
        x.route(5, 4, 1);
        answers.due("routed to another issuer now", 1, () -> x.used(0, 1));
        answers.due("a card that is routed to another issuer", 0, () -> x.use(TWO, 1));
        x.unroute(4, 1);
        answers.due("no route now", 2, () -> x.used(0, 1));
        x.route(1, 4, 1);
        x.block(0, false);
        answers.due("both count for a use", 65, () -> x.use(ONE, 11));
    }

    private static void usedOfManyUses(Answers answers) {
        usesOneByOne(answers, 1, 1, 2);
        for (int many = 2; many <= 8; many++) {
            usesOneByOne(answers, many - 1, many, 1);
        }
    }

    /** So far apart that each is done, and as many as can be within one window. */
    private static void usesOneByOne(Answers answers, int window, int many, int step) {
        CardDirectory x = Samples.withCards(window, many);
        String name = "many " + many + ": ";
        for (int i = 0; i < 60; i++) {
            int time = i * step;
            long number = i % 3 == 0 ? TWO : ONE;
            answers.due(name + "use at " + time, 0, () -> x.use(number, time));
            answers.due(name + "used at " + time, Math.min(i + 1, many), () -> x.used(0, time));
        }
        answers.due(name + "another account", 0, () -> x.used(1, 60 * step));
    }

    private static void noSuchAccount(Answers answers) {
        CardDirectory none = new CardDirectory(10, 2);
        CardDirectory two = Samples.withCards(10, 2);
        CardDirectory all = Samples.withFullAccounts();
        for (int account : Samples.outOf(0)) {
            answers.dueIllegalArgument("used " + account + " of none", () -> none.used(account, 0));
        }
        for (int account : Samples.outOf(2)) {
            answers.dueIllegalArgument("used " + account + " of 2", () -> two.used(account, 0));
        }
        for (int account : Samples.outOf(Samples.MOST_ACCOUNTS)) {
            answers.dueIllegalArgument("used " + account + " of 64", () -> all.used(account, 0));
        }
        answers.due("the last of 2", 0, () -> two.used(1, 0));
        answers.due("the last of 64", 0, () -> all.used(63, 0));
    }

    private static void usedBelowZero(Answers answers) {
        CardDirectory x = Samples.withCards(10, 2);
        for (int time : new int[] {-1, -10, -5000, Integer.MIN_VALUE}) {
            answers.dueIllegalArgument("used(0, " + time + ")", () -> x.used(0, time));
        }
        answers.due("used(0, 0)", 0, () -> x.used(0, 0));
    }

    private static void usedBelowTheLatest(Answers answers) {
        CardDirectory x = Samples.withCards(10, 2);
        x.use(ONE, 5);
        x.use(ONE, 9);
        for (int time : new int[] {8, 5, 0, -1}) {
            answers.dueIllegalArgument("used(0, " + time + ")", () -> x.used(0, time));
            answers.dueIllegalArgument("used(1, " + time + "), an account without uses", () -> x.used(1, time));
        }
        answers.due("at the latest", 2, () -> x.used(0, 9));
        answers.due("later", 2, () -> x.used(0, 10));
        answers.due("at the latest, of the other account", 0, () -> x.used(1, 9));
    }

    private static void usedChangesNothing(Answers answers) {
        CardDirectory x = Samples.withCards(10, 2);
        answers.due("far ahead", 0, () -> x.used(0, END));
        answers.due("then at 0", 0, () -> x.used(0, 0));
        answers.due("a use at 0", 0, () -> x.use(ONE, 0));
        answers.due("far ahead again", 0, () -> x.used(0, END));
        answers.due("the use is not forgotten", 1, () -> x.used(0, 10));
        answers.due("a second use at 0", 0, () -> x.use(ONE, 0));
        answers.due("it took no place", 65, () -> x.use(ONE, 0));
    }
}
