/** Promise 1: a new object is empty, and WINDOW and MANY are brought within their bounds. */
public final class NewObjectTest {
    private static final long NUMBER = 400000000002L;

    public static void main(String[] args) {
        Answers answers = new Answers();
        empty(answers);
        window(answers, Integer.MIN_VALUE, 1);
        window(answers, 0, 1);
        window(answers, 1, 1);
        window(answers, 2, 2);
        window(answers, 4999, 4999);
        window(answers, 5000, 5000);
        window(answers, 5001, 5000);
        window(answers, Integer.MAX_VALUE, 5000);
        many(answers, Integer.MIN_VALUE, 1);
        many(answers, 0, 1);
        many(answers, 1, 1);
        many(answers, 2, 2);
        many(answers, 7, 7);
        many(answers, 8, 8);
        many(answers, 9, 8);
        many(answers, Integer.MAX_VALUE, 8);
        apart(answers);
        answers.end();
    }

    private static void empty(Answers answers) {
        CardDirectory x = new CardDirectory(10, 2);
        answers.due("routes()", 0, () -> x.routes());
        answers.due("whose(4)", -1, () -> x.whose(4));
        answers.dueIllegalArgument("used(0, 0)", () -> x.used(0, 0));
        answers.dueIllegalArgument("told(0, 0)", () -> x.told(0, 0));
        answers.dueIllegalArgument("block(0, true)", () -> Answers.bit(x.block(0, true)));
        answers.dueIllegalArgument("card with no account", () -> x.card(NUMBER, 0));
        answers.due("first account", 0, () -> x.account(5));
        answers.due("card with no route", CardDirectory.NOWHERE, () -> x.card(NUMBER, 0));
        answers.due("use with no route", 92, () -> x.use(NUMBER, 0));
    }

    private static CardDirectory withOneCard(int window, int many) {
        CardDirectory x = new CardDirectory(window, many);
        x.route(1, 4, 1);
        x.account(1);
        x.card(NUMBER, 0);
        return x;
    }

    private static void window(Answers answers, int given, int counts) {
        String name = "window " + given + ": ";
        CardDirectory x = withOneCard(given, 1);
        answers.due(name + "first use", 0, () -> x.use(NUMBER, 100));
        answers.due(name + "used at the window's end", 1, () -> x.used(0, 100 + counts));
        answers.due(name + "used behind it", 0, () -> x.used(0, 101 + counts));
        answers.due(name + "use at the window's end", 65, () -> x.use(NUMBER, 100 + counts));
        answers.due(name + "use behind it", 0, () -> x.use(NUMBER, 101 + counts));
    }

    private static void many(Answers answers, int given, int counts) {
        String name = "many " + given + ": ";
        CardDirectory x = withOneCard(10, given);
        for (int i = 1; i <= counts; i++) {
            answers.due(name + "use " + i, 0, () -> x.use(NUMBER, 3));
        }
        answers.due(name + "one use more", 65, () -> x.use(NUMBER, 3));
        answers.due(name + "used", counts, () -> x.used(0, 3));
    }

    private static void apart(Answers answers) {
        CardDirectory one = withOneCard(10, 2);
        CardDirectory other = new CardDirectory(10, 2);
        one.use(NUMBER, 50);
        answers.due("another object's routes", 0, () -> other.routes());
        answers.due("another object's time", 92, () -> other.use(NUMBER, 0));
    }
}
