/** Promises 11 and 12: use, used. */
public final class UseTest {
    private static final long ONE = 400000000002L;
    private static final long TWO = 420000000000L;
    private static final long OTHER_ACCOUNT = 430000000009L;

    public static void main(String[] args) {
        Answers answers = new Answers();
        whichAnswerFirst(answers);
        windowOfAnAccount(answers);
        onlyDoneUsesCount(answers);
        slidingWindow(answers);
        timesDoNotFall(answers);
        everyUseHasItsTime(answers);
        farTimes(answers);
        wrongArguments(answers);
        anotherIssuerNow(answers);
        answers.end();
    }

    private static CardDirectory withCards(int window, int many) {
        CardDirectory x = new CardDirectory(window, many);
        x.route(1, 4, 1);
        x.account(1);
        x.account(1);
        x.card(ONE, 0);
        x.card(TWO, 0);
        x.card(OTHER_ACCOUNT, 1);
        return x;
    }

    private static void whichAnswerFirst(Answers answers) {
        CardDirectory x = withCards(10, 1);
        answers.due("no route, not GOOD", 92, () -> x.use(5, 0));
        answers.due("no route, GOOD", 92, () -> x.use(500000000009L, 0));
        answers.due("routed, not GOOD", 14, () -> x.use(ONE + 1, 0));
        answers.due("routed, short", 14, () -> x.use(4, 0));
        answers.due("routed, GOOD, no card", 14, () -> x.use(411000000009L, 0));
        answers.due("routed, of 18 digits", 14, () -> x.use(499999999999999999L, 0));
        answers.due("done", 0, () -> x.use(ONE, 0));
        answers.due("too often", 65, () -> x.use(ONE, 0));
        x.block(0, true);
        answers.due("blocked before too often", 62, () -> x.use(ONE, 0));
        x.unroute(4, 1);
        answers.due("no route before blocked", 92, () -> x.use(ONE, 0));
    }

    private static void windowOfAnAccount(Answers answers) {
        CardDirectory x = withCards(10, 2);
        answers.due("first", 0, () -> x.use(ONE, 5));
        answers.due("second, of another card", 0, () -> x.use(TWO, 6));
        answers.due("third", 65, () -> x.use(ONE, 6));
        answers.due("of another account", 0, () -> x.use(OTHER_ACCOUNT, 6));
        answers.due("used by account 0", 2, () -> x.used(0, 6));
        answers.due("used by account 1", 1, () -> x.used(1, 6));
        answers.due("just within the window", 65, () -> x.use(TWO, 15));
        answers.due("used there", 2, () -> x.used(0, 15));
        answers.due("used one tick later", 1, () -> x.used(0, 16));
        answers.due("the first is past", 0, () -> x.use(TWO, 16));
        answers.due("the second is not", 65, () -> x.use(ONE, 16));
        answers.due("used then", 2, () -> x.used(0, 16));
        answers.due("used later", 1, () -> x.used(0, 17));
        answers.due("used at the end", 1, () -> x.used(0, 26));
        answers.due("used past all", 0, () -> x.used(0, 27));
    }

    private static void onlyDoneUsesCount(Answers answers) {
        CardDirectory x = withCards(10, 2);
        x.block(1, true);
        answers.due("blocked", 62, () -> x.use(TWO, 1));
        answers.due("blocked again", 62, () -> x.use(TWO, 1));
        answers.due("not GOOD", 14, () -> x.use(ONE + 1, 1));
        answers.due("used", 0, () -> x.used(0, 1));
        answers.due("first", 0, () -> x.use(ONE, 1));
        answers.due("second", 0, () -> x.use(ONE, 1));
        for (int time = 2; time <= 11; time++) {
            int now = time;
            answers.due("refused at " + time, 65, () -> x.use(ONE, now));
        }
        answers.due("the refused ones do not count", 0, () -> x.use(ONE, 12));
    }

    private static void slidingWindow(Answers answers) {
        CardDirectory x = withCards(7, 8);
        for (int time = 0; time < 60; time++) {
            int now = time;
            answers.due("use at " + time, 0, () -> x.use(ONE, now));
            answers.due("used at " + time, Math.min(time + 1, 8), () -> x.used(0, now));
        }
        answers.due("a ninth within the window", 65, () -> x.use(TWO, 59));
        answers.due("used three ticks later", 5, () -> x.used(0, 62));
    }

    private static void timesDoNotFall(Answers answers) {
        CardDirectory x = withCards(10, 2);
        answers.dueIllegalArgument("use at -1", () -> x.use(ONE, -1));
        answers.dueIllegalArgument("used at -1", () -> x.used(0, -1));
        answers.due("used at 0", 0, () -> x.used(0, 0));
        answers.due("used far ahead", 0, () -> x.used(0, 1000));
        answers.due("asking moves no time", 0, () -> x.use(ONE, 0));
        answers.due("at the same time", 0, () -> x.use(ONE, 0));
        answers.due("later", 65, () -> x.use(ONE, 8));
        answers.dueIllegalArgument("earlier", () -> x.use(ONE, 7));
        answers.dueIllegalArgument("used earlier", () -> x.used(0, 7));
        answers.dueIllegalArgument("earlier, with no route", () -> x.use(5, 7));
        answers.due("used at the latest", 2, () -> x.used(0, 8));
        answers.dueIllegalArgument("a wrong number, later", () -> x.use(0, 100));
        answers.due("it moved no time", 65, () -> x.use(ONE, 8));
    }

    private static void everyUseHasItsTime(Answers answers) {
        long[] numbers = {5, ONE + 1, TWO, ONE, ONE};
        int[] due = {92, 14, 62, 0, 65};
        CardDirectory x = withCards(10, 1);
        x.block(1, true);
        for (int i = 0; i < numbers.length; i++) {
            long number = numbers[i];
            int time = 10 + i;
            answers.due("use answered by " + due[i], due[i], () -> x.use(number, time));
            answers.dueIllegalArgument("use before it", () -> x.use(number, time - 1));
            answers.dueIllegalArgument("used before it", () -> x.used(0, time - 1));
        }
    }

    private static void farTimes(Answers answers) {
        CardDirectory x = withCards(5000, 1);
        int end = Integer.MAX_VALUE;
        answers.due("use at 0", 0, () -> x.use(ONE, 0));
        answers.due("used at 5000", 1, () -> x.used(0, 5000));
        answers.due("used at the end of time", 0, () -> x.used(0, end));
        answers.due("just past the window", 0, () -> x.use(ONE, 5001));
        answers.due("within the second window", 65, () -> x.use(ONE, 10001));
        answers.due("the end of time", 0, () -> x.use(ONE, end));
        answers.due("once more", 65, () -> x.use(ONE, end));
        answers.due("used then", 1, () -> x.used(0, end));
        answers.dueIllegalArgument("before it", () -> x.used(0, end - 1));
    }

    private static void wrongArguments(Answers answers) {
        CardDirectory x = withCards(10, 2);
        for (long number : new long[] {0, -1, -ONE, Long.MIN_VALUE, 1000000000000000000L, Long.MAX_VALUE}) {
            answers.dueIllegalArgument("use(" + number + ", 0)", () -> x.use(number, 0));
        }
        for (int account : new int[] {-1, 2, 63, 64, Integer.MIN_VALUE, Integer.MAX_VALUE}) {
            answers.dueIllegalArgument("used(" + account + ", 0)", () -> x.used(account, 0));
        }
        answers.dueIllegalArgument("use at the least int", () -> x.use(ONE, Integer.MIN_VALUE));
        answers.dueIllegalArgument("used at the least int", () -> x.used(0, Integer.MIN_VALUE));
        answers.due("nothing is changed", 0, () -> x.used(0, 0));
    }

    private static void anotherIssuerNow(Answers answers) {
        CardDirectory x = withCards(10, 2);
        x.route(5, 4, 1);
        answers.due("a card that is routed to another issuer now", 0, () -> x.use(ONE, 0));
        answers.due("used", 1, () -> x.used(0, 0));
    }
}
