/** Promise 1: a new object is empty, and WINDOW and MANY are brought within their bounds. */
public final class NewObjectTest {
    public static void main(String[] args) {
        Answers answers = new Answers();
        answers.sentence("No routes", NewObjectTest::noRoutes);
        answers.sentence("No accounts", NewObjectTest::noAccounts);
        answers.sentence("No cards", NewObjectTest::noCards);
        answers.sentence("A new object: none of another object's", NewObjectTest::nothingOfAnother);
        answers.sentence("WINDOW below 1 counts as 1", NewObjectTest::windowTooSmall);
        answers.sentence("WINDOW 1 .. 5000", NewObjectTest::windowWithin);
        answers.sentence("WINDOW above 5000 counts as 5000", NewObjectTest::windowTooLarge);
        answers.sentence("MANY below 1 counts as 1", NewObjectTest::manyTooSmall);
        answers.sentence("MANY 1 .. 8", NewObjectTest::manyWithin);
        answers.sentence("MANY above 8 counts as 8", NewObjectTest::manyTooLarge);
        answers.sentence("WINDOW and MANY both out of their bounds", NewObjectTest::bothOut);
        answers.end();
    }

    private static CardDirectory fresh() {
        return new CardDirectory(10, 2);
    }

    private static void noRoutes(Answers answers) {
        CardDirectory x = fresh();
        answers.due("routes()", 0, () -> x.routes());
        for (int first = 1; first <= 9; first++) {
            int number = first;
            answers.due("whose(" + number + ")", CardDirectory.NONE, () -> x.whose(number));
        }
        answers.due("unroute(0, 1)", CardDirectory.NONE, () -> x.unroute(0, 1));
        answers.due("unroute(0, 8)", CardDirectory.NONE, () -> x.unroute(0, 8));
        answers.due("use of a number", 92, () -> x.use(Samples.ONE, 0));
        answers.due("an account", 0, () -> x.account(0));
        answers.due("a card of it", CardDirectory.NOWHERE, () -> x.card(Samples.ONE, 0));
    }

    private static void noAccounts(Answers answers) {
        CardDirectory x = fresh();
        x.route(1, 4, 1);
        answers.dueIllegalArgument("used(0, 0)", () -> x.used(0, 0));
        answers.dueIllegalArgument("card of account 0", () -> x.card(Samples.ONE, 0));
        answers.due("the first account", 0, () -> x.account(1));
        answers.due("used(0, 0) then", 0, () -> x.used(0, 0));
    }

    private static void noCards(Answers answers) {
        CardDirectory x = fresh();
        x.route(1, 4, 1);
        x.account(1);
        answers.dueIllegalArgument("told(0, 0)", () -> x.told(0, 0));
        answers.dueIllegalArgument("block(0, true)", () -> Answers.bit(x.block(0, true)));
        answers.due("use", 14, () -> x.use(Samples.ONE, 0));
        answers.due("the first card", 0, () -> x.card(Samples.ONE, 0));
        answers.due("it is not blocked", 0, () -> x.told(0, 2));
        answers.due("use then", 0, () -> x.use(Samples.ONE, 0));
    }

    private static void nothingOfAnother(Answers answers) {
        CardDirectory before = fresh();
        CardDirectory one = Samples.withCards(10, 2);
        one.block(0, true);
        one.use(Samples.TWO, 50);
        answers.due("use of one that was made before", 92, () -> before.use(Samples.ONE, 0));
        CardDirectory other = fresh();
        answers.due("routes()", 0, () -> other.routes());
        answers.dueIllegalArgument("used(0, 0)", () -> other.used(0, 0));
        answers.dueIllegalArgument("told(0, 0)", () -> other.told(0, 0));
        answers.due("use at an earlier time", 92, () -> other.use(Samples.ONE, 0));
        answers.due("the other one has its routes", 1, () -> one.routes());
        answers.due("the other one has its uses", 1, () -> one.used(0, 50));
        answers.dueIllegalArgument("the other one has its time", () -> one.used(0, 49));
    }

    private static void windowTooSmall(Answers answers) {
        for (int window : new int[] {0, -1, -5000, Integer.MIN_VALUE}) {
            window(answers, window, 1);
        }
    }

    private static void windowWithin(Answers answers) {
        for (int window : new int[] {1, 2, 3, 2500, 4999, 5000}) {
            window(answers, window, window);
        }
    }

    private static void windowTooLarge(Answers answers) {
        for (int window : new int[] {5001, 5002, 10000, Integer.MAX_VALUE}) {
            window(answers, window, 5000);
        }
    }

    private static void manyTooSmall(Answers answers) {
        for (int many : new int[] {0, -1, -8, Integer.MIN_VALUE}) {
            many(answers, many, 1);
        }
    }

    private static void manyWithin(Answers answers) {
        for (int many = 1; many <= 8; many++) {
            many(answers, many, many);
        }
    }

    private static void manyTooLarge(Answers answers) {
        for (int many : new int[] {9, 10, 16, 512, Integer.MAX_VALUE}) {
            many(answers, many, 8);
        }
    }

    private static void bothOut(Answers answers) {
        windowAndMany(answers, 0, 0, 1, 1);
        windowAndMany(answers, 0, 9, 1, 8);
        windowAndMany(answers, 5001, 0, 5000, 1);
        windowAndMany(answers, 5001, 9, 5000, 8);
        windowAndMany(answers, Integer.MIN_VALUE, Integer.MIN_VALUE, 1, 1);
        windowAndMany(answers, Integer.MAX_VALUE, Integer.MAX_VALUE, 5000, 8);
    }

    private static void window(Answers answers, int given, int counts) {
        windowAndMany(answers, given, 2, counts, 2);
    }

    private static void many(Answers answers, int given, int counts) {
        windowAndMany(answers, 10, given, 10, counts);
    }

    private static void windowAndMany(Answers answers, int window, int many, int windowCounts, int manyCounts) {
        String name = "(" + window + ", " + many + "): ";
        CardDirectory x = Samples.withCards(window, many);
        int start = 100;
        for (int i = 1; i <= manyCounts; i++) {
            answers.due(name + "use " + i, 0, () -> x.use(Samples.ONE, start));
        }
        answers.due(name + "one use more", 65, () -> x.use(Samples.ONE, start));
        answers.due(name + "used at the window's end", manyCounts, () -> x.used(0, start + windowCounts));
        answers.due(name + "used behind it", 0, () -> x.used(0, start + windowCounts + 1));
        answers.due(name + "use at the window's end", 65, () -> x.use(Samples.ONE, start + windowCounts));
        answers.due(name + "use behind it", 0, () -> x.use(Samples.ONE, start + windowCounts + 1));
    }
}
