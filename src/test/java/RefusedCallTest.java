/** The section "Terms": a call that throws changes nothing. Its object then answers like a twin that was not called. */
public final class RefusedCallTest {
    private static final String ARGUMENT = "throws.IllegalArgumentException";
    private static final String STATE = "throws.IllegalStateException";
    private static final int LATEST = 7;
    private static final int SOME = 0;
    private static final int ALL = 1;
    private static final int VIEWS = 8;

    private interface Refused {
        long on(CardDirectory x);
    }

    public static void main(String[] args) {
        Answers answers = new Answers();
        answers.sentence("a call that throws changes nothing: route", RefusedCallTest::route);
        answers.sentence("a call that throws changes nothing: route with 40", RefusedCallTest::routeWhenFull);
        answers.sentence("a call that throws changes nothing: unroute", RefusedCallTest::unroute);
        answers.sentence("a call that throws changes nothing: account", RefusedCallTest::account);
        answers.sentence("a call that throws changes nothing: account with 64", RefusedCallTest::accountWhenFull);
        answers.sentence("a call that throws changes nothing: card", RefusedCallTest::card);
        answers.sentence("a call that throws changes nothing: card with 100", RefusedCallTest::cardWhenFull);
        answers.sentence("a call that throws changes nothing: block", RefusedCallTest::block);
        answers.sentence("a call that throws changes nothing: whose, good, digit", RefusedCallTest::numbers);
        answers.sentence("a call that throws changes nothing: use", RefusedCallTest::use);
        answers.sentence("a call that throws changes nothing: used", RefusedCallTest::used);
        answers.sentence("a call that throws changes nothing: told", RefusedCallTest::told);
        answers.end();
    }

    private static void route(Answers answers) {
        for (int size = SOME; size <= ALL; size++) {
            same(answers, size, "no such issuer, a row that is there", ARGUMENT, x -> x.route(6, 4, 1));
            same(answers, size, "no such issuer, a new row", ARGUMENT, x -> x.route(-1, 9, 1));
            same(answers, size, "0 digits", ARGUMENT, x -> x.route(2, 4, 0));
            same(answers, size, "9 digits", ARGUMENT, x -> x.route(2, 4, 9));
            same(answers, size, "prefix has more", ARGUMENT, x -> x.route(2, 41, 1));
            same(answers, size, "prefix below 0", ARGUMENT, x -> x.route(2, -4, 1));
        }
    }

    private static void routeWhenFull(Answers answers) {
        same(answers, ALL, "a new row", STATE, x -> x.route(2, 9, 1));
        same(answers, ALL, "a row that begins with another", STATE, x -> x.route(2, 40, 2));
    }

    private static void unroute(Answers answers) {
        for (int size = SOME; size <= ALL; size++) {
            same(answers, size, "0 digits", ARGUMENT, x -> x.unroute(4, 0));
            same(answers, size, "9 digits", ARGUMENT, x -> x.unroute(4, 9));
            same(answers, size, "prefix has more", ARGUMENT, x -> x.unroute(41, 1));
            same(answers, size, "prefix below 0", ARGUMENT, x -> x.unroute(-4, 1));
        }
    }

    private static void account(Answers answers) {
        for (int size = SOME; size <= ALL; size++) {
            same(answers, size, "issuer 6", ARGUMENT, x -> x.account(6));
            same(answers, size, "issuer -1", ARGUMENT, x -> x.account(-1));
        }
    }

    private static void accountWhenFull(Answers answers) {
        same(answers, ALL, "issuer 1", STATE, x -> x.account(1));
        same(answers, ALL, "issuer 2", STATE, x -> x.account(2));
    }

    private static void card(Answers answers) {
        long next = Samples.numberOfCard(100);
        for (int size = SOME; size <= ALL; size++) {
            same(answers, size, "too short", ARGUMENT, x -> x.card(42, 0));
            same(answers, size, "too long", ARGUMENT, x -> x.card(Samples.LEAST_OF_19_DIGITS, 0));
            same(answers, size, "no such account", ARGUMENT, x -> x.card(next, 64));
            same(answers, size, "no such account below", ARGUMENT, x -> x.card(next, -1));
        }
    }

    private static void cardWhenFull(Answers answers) {
        same(answers, ALL, "a new one", STATE, x -> x.card(Samples.numberOfCard(100), 0));
        same(answers, ALL, "a new one of the last account", STATE, x -> x.card(Samples.numberOfCard(101), 63));
    }

    private static void block(Answers answers) {
        for (int size = SOME; size <= ALL; size++) {
            same(answers, size, "card 100 on", ARGUMENT, x -> Answers.bit(x.block(100, true)));
            same(answers, size, "card 100 off", ARGUMENT, x -> Answers.bit(x.block(100, false)));
            same(answers, size, "card -1 on", ARGUMENT, x -> Answers.bit(x.block(-1, true)));
            same(answers, size, "card -1 off", ARGUMENT, x -> Answers.bit(x.block(-1, false)));
        }
        same(answers, SOME, "the card that comes next on", ARGUMENT, x -> Answers.bit(x.block(3, true)));
    }

    private static void numbers(Answers answers) {
        same(answers, SOME, "whose", ARGUMENT, x -> x.whose(0));
        same(answers, SOME, "good", ARGUMENT, x -> Answers.bit(x.good(0)));
        same(answers, SOME, "digit", ARGUMENT, x -> x.digit(0));
    }

    private static void use(Answers answers) {
        for (int size = SOME; size <= ALL; size++) {
            long number = size == SOME ? Samples.ONE : Samples.numberOfCard(0);
            same(answers, size, "a time below the latest", ARGUMENT, x -> x.use(number, LATEST - 1));
            same(answers, size, "a time below 0", ARGUMENT, x -> x.use(number, -1));
            same(answers, size, "the least time", ARGUMENT, x -> x.use(number, Integer.MIN_VALUE));
            same(answers, size, "a number below 1, later", ARGUMENT, x -> x.use(0, LATEST + 1));
            same(answers, size, "a number too long, later", ARGUMENT, x -> x.use(Long.MAX_VALUE, LATEST + 100));
        }
    }

    private static void used(Answers answers) {
        for (int size = SOME; size <= ALL; size++) {
            same(answers, size, "a time below the latest", ARGUMENT, x -> x.used(0, LATEST - 1));
            same(answers, size, "a time below 0", ARGUMENT, x -> x.used(0, -1));
            same(answers, size, "no such account, later", ARGUMENT, x -> x.used(64, LATEST + 100));
        }
    }

    private static void told(Answers answers) {
        for (int size = SOME; size <= ALL; size++) {
            same(answers, size, "no such card", ARGUMENT, x -> x.told(100, 0));
            same(answers, size, "what = 4", ARGUMENT, x -> x.told(0, 4));
            same(answers, size, "what = -1", ARGUMENT, x -> x.told(0, -1));
        }
    }

    /** A fresh pair for each view, as an object with all that there can be has few calls left. */
    private static void same(Answers answers, int size, String name, String exception, Refused refused) {
        for (int view = 0; view < VIEWS; view++) {
            CardDirectory called = make(size);
            CardDirectory twin = make(size);
            answers.compare(name, exception, Answers.outcome(() -> refused.on(called)));
            answers.compare(name + ", view " + view, view(view, twin), view(view, called));
        }
    }

    private static CardDirectory make(int size) {
        CardDirectory x = size == SOME ? Samples.withCards(10, 3) : Samples.withAllFull(10, 3);
        long number = size == SOME ? Samples.ONE : Samples.numberOfCard(0);
        x.use(number, LATEST - 2);
        x.use(number, LATEST);
        x.block(1, true);
        return x;
    }

    private static String view(int view, CardDirectory x) {
        switch (view) {
            case 0:
            case 1:
            case 2:
            case 3:
                return cards(x, view);
            case 4:
                return routes(x);
            case 5:
                return accounts(x);
            case 6:
                return uses(x);
            default:
                return next(x);
        }
    }

    private static String cards(CardDirectory x, int what) {
        StringBuilder seen = new StringBuilder();
        for (int i = -1; i <= Samples.MOST_CARDS; i++) {
            int card = i;
            see(seen, () -> x.told(card, what));
        }
        return seen.toString();
    }

    private static String routes(CardDirectory x) {
        StringBuilder seen = new StringBuilder();
        see(seen, x::routes);
        for (int first = 1; first <= 9; first++) {
            int number = first;
            see(seen, () -> x.whose(number));
            see(seen, () -> x.whose(number * 10));
        }
        for (int i = 1; i <= Samples.MOST_ROUTES; i++) {
            int prefix = 500 + i;
            see(seen, () -> x.unroute(prefix, 3));
        }
        see(seen, () -> x.unroute(4, 1));
        see(seen, x::routes);
        return seen.toString();
    }

    private static String accounts(CardDirectory x) {
        StringBuilder seen = new StringBuilder();
        for (int i = -1; i <= Samples.MOST_ACCOUNTS; i++) {
            int account = i;
            see(seen, () -> x.used(account, LATEST));
            see(seen, () -> x.used(account, LATEST + 9));
        }
        see(seen, () -> x.used(0, LATEST - 1));
        return seen.toString();
    }

    private static String uses(CardDirectory x) {
        StringBuilder seen = new StringBuilder();
        see(seen, () -> x.use(9, LATEST - 1));
        see(seen, () -> x.use(9, LATEST));
        for (long number : new long[] {Samples.ONE, Samples.TWO, Samples.OTHER_ACCOUNT, Samples.numberOfCard(1),
            Samples.numberOfCard(63), Samples.numberOfCard(64), Samples.numberOfCard(100)}) {
            see(seen, () -> x.use(number, LATEST));
            see(seen, () -> x.use(number, LATEST));
        }
        return seen.toString();
    }

    private static String next(CardDirectory x) {
        StringBuilder seen = new StringBuilder();
        see(seen, () -> x.account(1));
        see(seen, () -> x.account(1));
        see(seen, () -> x.card(Samples.numberOfCard(100), 0));
        see(seen, () -> x.card(Samples.numberOfCard(101), 0));
        see(seen, () -> x.told(3, 2));
        see(seen, () -> x.route(1, 9, 1));
        return seen.toString();
    }

    private static void see(StringBuilder seen, Answers.Call made) {
        seen.append(Answers.outcome(made)).append(' ');
    }
}
