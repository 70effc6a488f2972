/** The example of README.md, call by call, so that it never tells what the class does not do. */
public final class ReadmeTest {
    public static void main(String[] args) {
        Answers answers = new Answers();
        answers.sentence("README.md, the example", ReadmeTest::example);
        answers.end();
    }

    private static void example(Answers answers) {
        CardDirectory cards = new CardDirectory(10, 2);
        answers.due("route(1, 4, 1)", -1, () -> cards.route(1, 4, 1));
        answers.due("account(1)", 0, () -> cards.account(1));
        answers.due("digit(40000000000)", 2, () -> cards.digit(40000000000L));
        answers.due("card(400000000002, 0)", 0, () -> cards.card(400000000002L, 0));
        answers.due("card(400000000003, 0)", -5, () -> cards.card(400000000003L, 0));
        answers.due("use(400000000002, 5)", 0, () -> cards.use(400000000002L, 5));
        answers.due("use(400000000002, 7)", 0, () -> cards.use(400000000002L, 7));
        answers.due("use(400000000002, 15)", 65, () -> cards.use(400000000002L, 15));
        answers.due("used(0, 15)", 2, () -> cards.used(0, 15));
        answers.due("use(400000000002, 16)", 0, () -> cards.use(400000000002L, 16));
        answers.due("block(0, true)", 0, () -> Answers.bit(cards.block(0, true)));
        answers.due("use(400000000002, 16), blocked", 62, () -> cards.use(400000000002L, 16));
        answers.due("unroute(4, 1)", 1, () -> cards.unroute(4, 1));
        answers.due("use(400000000002, 16), no route", 92, () -> cards.use(400000000002L, 16));
        answers.dueIllegalArgument("use(400000000002, 15), earlier", () -> cards.use(400000000002L, 15));
    }
}
