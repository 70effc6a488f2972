/** The sections "What it is" and "Terms": how long an object is used, the bounds, the answers of a use and their order. */
public final class TermsTest {
    private static final int NONE = CardDirectory.NONE;
    private static final long ONE = Samples.ONE;
    private static final long TWO = Samples.TWO;
    private static final long OTHER_ACCOUNT = Samples.OTHER_ACCOUNT;

    public static void main(String[] args) {
        Answers answers = new Answers();
        answers.sentence("at most 512 calls: uses", TermsTest::callsOfUse);
        answers.sentence("at most 512 calls: uses that are answered by 65", TermsTest::callsOfUseTooOften);
        answers.sentence("at most 512 calls: routes that come and go", TermsTest::callsOfRoute);
        answers.sentence("at most 512 calls: with all that there can be", TermsTest::callsWithAllFull);
        answers.sentence("at most 512 calls: calls that throw", TermsTest::callsThatThrow);
        answers.sentence("ISSUERS are 0 .. 5", TermsTest::issuers);
        answers.sentence("A ROUTE is a row of 1 .. 8 digits", TermsTest::routeDigits);
        answers.sentence("ACCOUNTS 0 .. 63", TermsTest::accounts);
        answers.sentence("CARDS 0 .. 99", TermsTest::cards);
        answers.sentence("a NUMBER of 12 .. 18 digits", TermsTest::numberDigits);
        answers.sentence("the sum of its digits is a multiple of 10", TermsTest::multipleOfTen);
        answers.sentence("from the second last digit on every second digit is doubled", TermsTest::everySecond);
        answers.sentence("less 9 if that is above 9", TermsTest::lessNine);
        answers.sentence("the longest route that it begins with", TermsTest::longestRoute);
        answers.sentence("a route that is longer than the number", TermsTest::routeLongerThanNumber);
        answers.sentence("times do not fall", TermsTest::times);
        answers.sentence("92: it has no route", TermsTest::noRoute);
        answers.sentence("92 comes first", TermsTest::noRouteFirst);
        answers.sentence("14: it is not GOOD", TermsTest::notGood);
        answers.sentence("14: no card has it", TermsTest::noCard);
        answers.sentence("62: the card is blocked", TermsTest::blocked);
        answers.sentence("62 comes before 65", TermsTest::blockedBeforeTooOften);
        answers.sentence("65: MANY uses or more", TermsTest::manyUses);
        answers.sentence("65: of its account's cards", TermsTest::accountsCards);
        answers.sentence("65: were answered by 0", TermsTest::answeredByZero);
        answers.sentence("65: WINDOW ticks ago or less", TermsTest::windowTicks);
        answers.sentence("Else 0", TermsTest::elseZero);
        answers.sentence("illegal argument: a number is out of its bounds", TermsTest::outOfBounds);
        answers.sentence("illegal argument: there is no such account", TermsTest::noSuchAccount);
        answers.sentence("illegal argument: there is no such card", TermsTest::noSuchCard);
        answers.sentence("the exception named first: route", TermsTest::firstOfRoute);
        answers.sentence("the exception named first: account", TermsTest::firstOfAccount);
        answers.sentence("the exception named first: card", TermsTest::firstOfCard);
        answers.end();
    }

    private static CardDirectory fresh() {
        return new CardDirectory(10, 2);
    }

    private static void callsOfUse(Answers answers) {
        CardDirectory x = Samples.withCards(1, 8);
        int before = 6;
        for (int call = before + 1; call < Samples.MOST_CALLS; call++) {
            // Four uses a tick: those of two ticks, 8 at most, lie within the window.
            int time = (call - before - 1) / 4;
            answers.due("call " + call, 0, () -> x.use(ONE, time));
        }
        answers.due("call 512", 5, () -> x.used(0, 126));
    }

    private static void callsOfUseTooOften(Answers answers) {
        CardDirectory x = Samples.withCards(5000, 1);
        answers.due("call 7", 0, () -> x.use(ONE, 0));
        for (int call = 8; call < Samples.MOST_CALLS; call++) {
            int time = call;
            answers.due("call " + call, 65, () -> x.use(ONE, time));
        }
        answers.due("call 512", 0, () -> x.use(ONE, 5001));
    }

    private static void callsOfRoute(Answers answers) {
        CardDirectory x = fresh();
        for (int i = 0; i < 255; i++) {
            int prefix = 10000000 + i;
            int issuer = i % 6;
            answers.due("it comes", NONE, () -> x.route(issuer, prefix, 8));
            answers.due("it goes", issuer, () -> x.unroute(prefix, 8));
        }
        answers.due("call 511", NONE, () -> x.route(5, 4, 1));
        answers.due("call 512", 1, () -> x.routes());
    }

    private static void callsWithAllFull(Answers answers) {
        CardDirectory x = Samples.withAllFull(10, 2);
        int before = Samples.MOST_ROUTES + Samples.MOST_ACCOUNTS + Samples.MOST_CARDS;
        for (int call = before + 1; call <= Samples.MOST_CALLS; call++) {
            int number = call - before - 1;
            int card = number % Samples.MOST_CARDS;
            int round = number / Samples.MOST_CARDS;
            answers.due("call " + call, 0, () -> x.use(Samples.numberOfCard(card), 100 * round));
        }
    }

    private static void callsThatThrow(Answers answers) {
        CardDirectory x = Samples.withCards(10, 2);
        for (int call = 7; call < Samples.MOST_CALLS; call += 5) {
            answers.dueIllegalArgument("call " + call, () -> x.use(0, 1000));
            answers.dueIllegalArgument("route", () -> x.route(6, 4, 1));
            answers.dueIllegalArgument("account", () -> x.account(-1));
            answers.dueIllegalArgument("card", () -> x.card(1, 0));
            answers.dueIllegalArgument("block", () -> Answers.bit(x.block(3, true)));
        }
        answers.due("call 512", 0, () -> x.use(ONE, 0));
    }

    private static void issuers(Answers answers) {
        CardDirectory x = fresh();
        for (int i = 0; i <= 5; i++) {
            int issuer = i;
            answers.due("route to " + i, NONE, () -> x.route(issuer, issuer + 1, 1));
            answers.due("account of " + i, issuer, () -> x.account(issuer));
            answers.due("whose " + i, issuer, () -> x.whose(issuer + 1));
            answers.due("card of " + i, issuer, () -> x.card(Samples.good((issuer + 1) * 10000000000L), issuer));
        }
        for (int issuer : Samples.outOf(6)) {
            answers.dueIllegalArgument("route to " + issuer, () -> x.route(issuer, 9, 1));
            answers.dueIllegalArgument("account of " + issuer, () -> x.account(issuer));
        }
    }

    private static void routeDigits(Answers answers) {
        CardDirectory x = fresh();
        int row = 0;
        for (int digits = 1; digits <= 8; digits++) {
            row = row * 10 + digits;
            int prefix = row;
            int length = digits;
            answers.due("a row of " + digits, NONE, () -> x.route(length % 6, prefix, length));
            answers.due("a number that begins with it", length % 6, () -> x.whose(prefix * 1000000000L));
        }
        answers.dueIllegalArgument("a row of 0", () -> x.route(0, 0, 0));
        answers.dueIllegalArgument("a row of 9", () -> x.route(0, 123456789, 9));
        answers.dueIllegalArgument("no row of 0 goes", () -> x.unroute(0, 0));
        answers.dueIllegalArgument("no row of 9 goes", () -> x.unroute(123456789, 9));
    }

    private static void accounts(Answers answers) {
        CardDirectory x = fresh();
        answers.due("the first", 0, () -> x.account(1));
        for (int i = 1; i < 63; i++) {
            x.account(1);
        }
        answers.due("the last", 63, () -> x.account(1));
        answers.dueIllegalState("none behind it", () -> x.account(1));
        x.route(1, 4, 1);
        answers.due("a card of the last", 0, () -> x.card(ONE, 63));
        answers.due("a use of the last's card", 0, () -> x.use(ONE, 0));
        answers.due("used of the last", 1, () -> x.used(63, 0));
        answers.due("used of the one before it", 0, () -> x.used(62, 0));
        answers.dueIllegalArgument("used of 64", () -> x.used(64, 0));
        answers.dueIllegalArgument("used of -1", () -> x.used(-1, 0));
        answers.dueIllegalArgument("a card of 64", () -> x.card(TWO, 64));
        answers.dueIllegalArgument("a card of -1", () -> x.card(TWO, -1));
    }

    private static void cards(Answers answers) {
        CardDirectory x = Samples.withFullCards();
        answers.due("the first", 0, () -> x.told(0, 0));
        answers.due("the last", 1, () -> x.told(99, 0));
        answers.dueIllegalArgument("told of 100", () -> x.told(100, 0));
        answers.dueIllegalArgument("told of -1", () -> x.told(-1, 0));
        answers.dueIllegalArgument("block of 100", () -> Answers.bit(x.block(100, true)));
        answers.dueIllegalArgument("block of -1", () -> Answers.bit(x.block(-1, true)));
        answers.dueIllegalState("none behind the last", () -> x.card(Samples.numberOfCard(100), 0));
    }

    private static void numberDigits(Answers answers) {
        CardDirectory x = fresh();
        x.route(1, 1, 1);
        x.route(1, 9, 1);
        x.account(1);
        answers.dueIllegalArgument("the largest of 11 digits", () -> x.card(Samples.good(9999999999L), 0));
        answers.due("the least of 12 digits", 0, () -> x.card(100000000008L, 0));
        answers.due("the largest of 18 digits", 1, () -> x.card(999999999999999997L, 0));
        answers.dueIllegalArgument("the least of 19 digits", () -> x.card(1000000000000000009L, 0));
    }

    /** Digits that are not doubled, with 0s between them: their sum is that of the number. */
    private static void multipleOfTen(Answers answers) {
        long number = 0;
        long place = 1;
        for (int sum = 1; sum <= 81; sum++) {
            number += place;
            if (sum % 9 == 0) {
                place *= 100;
            }
            long whole = number;
            answers.due("the sum is " + sum, sum % 10 == 0 ? 1 : 0, () -> Answers.bit(fresh().good(whole)));
        }
    }

    private static void everySecond(Answers answers) {
        long place = 10;
        for (int fromRight = 2; fromRight <= 18; fromRight++) {
            // A 2 is answered by 8 at the end, and a 2 that is doubled by 6.
            long number = 2 * place;
            int due = fromRight % 2 == 0 ? 6 : 8;
            for (int last = 0; last <= 9; last++) {
                long whole = number + last;
                answers.due("good(" + whole + ")", last == due ? 1 : 0, () -> Answers.bit(fresh().good(whole)));
            }
            answers.due("digit(" + number / 10 + ")", due, () -> fresh().digit(number / 10));
            place *= 10;
        }
    }

    private static void lessNine(Answers answers) {
        int[] counts = {0, 2, 4, 6, 8, 1, 3, 5, 7, 9};
        for (int value = 1; value <= 9; value++) {
            int due = 10 - counts[value];
            long place = 1;
            for (int i = 0; i < 9; i++) {
                long number = value * place;
                answers.due("digit(" + number + ")", due, () -> fresh().digit(number));
                answers.due("good", 1, () -> Answers.bit(fresh().good(number * 10 + due)));
                place *= 100;
            }
        }
    }

    private static void longestRoute(Answers answers) {
        int[] rows = {4, 41, 412, 4123, 41234, 412345, 4123456, 41234567};
        for (int turn = 0; turn < 2; turn++) {
            CardDirectory x = fresh();
            for (int i = 0; i < 8; i++) {
                int length = turn == 0 ? i + 1 : 8 - i;
                x.route(length % 6, rows[length - 1], length);
            }
            for (int length = 1; length <= 8; length++) {
                int issuer = length % 6;
                long begin = rows[length - 1];
                answers.due("whose(" + begin + ")", issuer, () -> x.whose(begin));
                answers.due("whose(" + begin + "9)", issuer, () -> x.whose(begin * 10 + 9));
                answers.due("whose(" + begin + "9000000000)", issuer, () -> x.whose(begin * 10000000000L + 9000000000L));
            }
            goneFromTheLongest(answers, x, rows);
        }
    }

    private static void goneFromTheLongest(Answers answers, CardDirectory x, int[] rows) {
        for (int i = 8; i >= 1; i--) {
            int length = i;
            answers.due("by " + length + " digits", length % 6, () -> x.whose(412345678901234567L));
            x.unroute(rows[length - 1], length);
        }
        answers.due("by none", NONE, () -> x.whose(412345678901234567L));
    }

    private static void routeLongerThanNumber(Answers answers) {
        CardDirectory x = fresh();
        x.route(2, 40, 2);
        x.route(3, 40000000, 8);
        answers.due("whose(4)", NONE, () -> x.whose(4));
        answers.due("whose(40)", 2, () -> x.whose(40));
        answers.due("whose(4000000)", 2, () -> x.whose(4000000));
        answers.due("whose(40000000)", 3, () -> x.whose(40000000));
        answers.due("use(4)", 92, () -> x.use(4, 0));
        answers.due("use(40)", 14, () -> x.use(40, 0));
    }

    private static void times(Answers answers) {
        CardDirectory x = Samples.withCards(10, 8);
        answers.due("at 0", 0, () -> x.use(ONE, 0));
        answers.due("at 0 again", 0, () -> x.use(ONE, 0));
        answers.due("at 1", 0, () -> x.use(ONE, 1));
        answers.dueIllegalArgument("back at 0", () -> x.use(ONE, 0));
        answers.due("at 1 again", 0, () -> x.use(ONE, 1));
    }

    private static void noRoute(Answers answers) {
        CardDirectory none = fresh();
        answers.due("there are no routes", 92, () -> none.use(ONE, 0));
        CardDirectory x = fresh();
        x.route(1, 40000001, 8);
        answers.due("another one", 92, () -> x.use(ONE, 0));
        x.route(1, 40000000, 8);
        answers.due("its own", 14, () -> x.use(ONE, 0));
        x.unroute(40000000, 8);
        answers.due("it is gone", 92, () -> x.use(ONE, 0));
    }

    private static void noRouteFirst(Answers answers) {
        CardDirectory x = Samples.withCards(10, 1);
        answers.due("not GOOD", 92, () -> x.use(500000000008L, 0));
        answers.due("no card has it", 92, () -> x.use(500000000009L, 0));
        x.use(ONE, 0);
        x.block(2, true);
        x.unroute(4, 1);
        answers.due("blocked", 92, () -> x.use(OTHER_ACCOUNT, 0));
        answers.due("too often", 92, () -> x.use(ONE, 0));
        answers.due("not GOOD then", 92, () -> x.use(ONE + 1, 0));
        x.route(1, 4, 1);
        answers.due("blocked, with a route", 62, () -> x.use(OTHER_ACCOUNT, 0));
        answers.due("too often, with a route", 65, () -> x.use(ONE, 0));
    }

    private static void notGood(Answers answers) {
        CardDirectory x = Samples.withCards(10, 8);
        for (int last = 0; last <= 9; last++) {
            int digit = last;
            answers.due("with " + last + " behind it", last == 2 ? 0 : 14, () -> x.use(ONE - 2 + digit, 0));
        }
    }

    private static void noCard(Answers answers) {
        CardDirectory x = Samples.withCards(10, 8);
        answers.due("GOOD", 14, () -> x.use(411000000009L, 0));
        answers.due("GOOD, too short for a card", 14, () -> x.use(42, 0));
        answers.due("GOOD, a card's number and a digit", 14, () -> x.use(Samples.good(ONE), 0));
        // ONE + 2^32: an int would hold the same of both.
        answers.due("GOOD, like a card's number", 14, () -> x.use(404294967298L, 0));
        answers.due("a card that was refused", CardDirectory.ELSEWHERE, () -> {
            x.account(2);
            return x.card(411000000009L, 2);
        });
        answers.due("no card has its number", 14, () -> x.use(411000000009L, 0));
    }

    private static void blocked(Answers answers) {
        CardDirectory x = Samples.withCards(10, 2);
        x.block(0, true);
        answers.due("blocked", 62, () -> x.use(ONE, 0));
        answers.due("another card of the account", 0, () -> x.use(TWO, 0));
        x.block(0, false);
        answers.due("not blocked", 0, () -> x.use(ONE, 0));
    }

    private static void blockedBeforeTooOften(Answers answers) {
        CardDirectory x = Samples.withCards(10, 1);
        x.use(ONE, 0);
        answers.due("too often", 65, () -> x.use(ONE, 0));
        x.block(0, true);
        answers.due("blocked", 62, () -> x.use(ONE, 0));
        answers.due("another card of the account", 65, () -> x.use(TWO, 0));
    }

    private static void manyUses(Answers answers) {
        for (int limit = 1; limit <= 8; limit++) {
            int many = limit;
            CardDirectory x = Samples.withCards(10, many);
            for (int use = 1; use <= many; use++) {
                answers.due("use " + use + " of " + many, 0, () -> x.use(ONE, 0));
            }
            answers.due("one more than " + many, 65, () -> x.use(ONE, 0));
            answers.due("once more", 65, () -> x.use(ONE, 10));
            answers.due("used", many, () -> x.used(0, 10));
        }
    }

    private static void accountsCards(Answers answers) {
        CardDirectory x = Samples.withCards(10, 2);
        answers.due("one card", 0, () -> x.use(ONE, 0));
        answers.due("the other card", 0, () -> x.use(TWO, 0));
        answers.due("the one card again", 65, () -> x.use(ONE, 0));
        answers.due("the other card again", 65, () -> x.use(TWO, 0));
        answers.due("a card of another account", 0, () -> x.use(OTHER_ACCOUNT, 0));
        answers.due("it again", 0, () -> x.use(OTHER_ACCOUNT, 0));
        answers.due("it once more", 65, () -> x.use(OTHER_ACCOUNT, 0));
    }

    private static void answeredByZero(Answers answers) {
        CardDirectory x = Samples.withCards(10, 2);
        x.block(1, true);
        answers.due("62", 62, () -> x.use(TWO, 0));
        answers.due("62 again", 62, () -> x.use(TWO, 0));
        x.unroute(4, 1);
        answers.due("92", 92, () -> x.use(ONE, 0));
        answers.due("92 again", 92, () -> x.use(ONE, 0));
        x.route(1, 4, 1);
        answers.due("first", 0, () -> x.use(ONE, 1));
        answers.due("second", 0, () -> x.use(ONE, 1));
        for (int time = 1; time <= 11; time++) {
            int now = time;
            answers.due("65 at " + time, 65, () -> x.use(ONE, now));
        }
        answers.due("those answered by 65 do not count", 0, () -> x.use(ONE, 12));
    }

    private static void windowTicks(Answers answers) {
        for (int size : new int[] {1, 2, 10, 4999, 5000}) {
            int window = size;
            CardDirectory x = Samples.withCards(window, 2);
            String name = "window " + window + ": ";
            answers.due(name + "first", 0, () -> x.use(ONE, 3));
            answers.due(name + "second", 0, () -> x.use(ONE, 4));
            answers.due(name + "just within", 65, () -> x.use(ONE, 3 + window));
            answers.due(name + "the first is past", 0, () -> x.use(ONE, 4 + window));
            answers.due(name + "the second is not", 65, () -> x.use(ONE, 4 + window));
            answers.due(name + "the second is past", 0, () -> x.use(ONE, 5 + window));
            answers.due(name + "the third is not", 65, () -> x.use(ONE, 4 + 2 * window));
        }
    }

    private static void elseZero(Answers answers) {
        CardDirectory x = Samples.withCards(10, 1);
        x.route(5, 4, 1);
        answers.due("also when it is routed to another issuer", 0, () -> x.use(ONE, 0));
        x.route(0, 4, 1);
        answers.due("also when it is routed to issuer 0", 0, () -> x.use(OTHER_ACCOUNT, 0));
    }

    private static void outOfBounds(Answers answers) {
        CardDirectory x = Samples.withCards(10, 2);
        for (long number : Samples.numbersOutOfBounds()) {
            answers.dueIllegalArgument("card(" + number + ", 0)", () -> x.card(number, 0));
            answers.dueIllegalArgument("whose(" + number + ")", () -> x.whose(number));
            answers.dueIllegalArgument("good(" + number + ")", () -> Answers.bit(x.good(number)));
            answers.dueIllegalArgument("digit(" + number + ")", () -> x.digit(number));
            answers.dueIllegalArgument("use(" + number + ", 0)", () -> x.use(number, 0));
        }
        for (int extreme : new int[] {Integer.MIN_VALUE, Integer.MAX_VALUE}) {
            answers.dueIllegalArgument("route", () -> x.route(extreme, extreme, extreme));
            answers.dueIllegalArgument("unroute", () -> x.unroute(extreme, extreme));
            answers.dueIllegalArgument("account", () -> x.account(extreme));
            answers.dueIllegalArgument("used", () -> x.used(extreme, extreme));
            answers.dueIllegalArgument("told", () -> x.told(extreme, extreme));
        }
    }

    private static void noSuchAccount(Answers answers) {
        CardDirectory x = fresh();
        x.route(1, 4, 1);
        for (int i = 0; i <= 3; i++) {
            int count = i;
            answers.dueIllegalArgument("used, with " + count, () -> x.used(count, 0));
            answers.dueIllegalArgument("card, with " + count, () -> x.card(ONE, count));
            answers.dueIllegalArgument("used of -1, with " + count, () -> x.used(-1, 0));
            answers.dueIllegalArgument("card of -1, with " + count, () -> x.card(ONE, -1));
            x.account(1);
            answers.due("used, with one more", 0, () -> x.used(count, 0));
        }
    }

    private static void noSuchCard(Answers answers) {
        CardDirectory x = fresh();
        x.route(1, 4, 1);
        x.account(1);
        for (int i = 0; i <= 3; i++) {
            int count = i;
            answers.dueIllegalArgument("told, with " + count, () -> x.told(count, 0));
            answers.dueIllegalArgument("block, with " + count, () -> Answers.bit(x.block(count, true)));
            answers.dueIllegalArgument("told of -1, with " + count, () -> x.told(-1, 0));
            answers.dueIllegalArgument("block of -1, with " + count, () -> Answers.bit(x.block(-1, true)));
            x.card(Samples.numberOfCard(count), 0);
            answers.due("told, with one more", 0, () -> x.told(count, 0));
            answers.due("block, with one more", 0, () -> Answers.bit(x.block(count, true)));
        }
    }

    private static void firstOfRoute(Answers answers) {
        CardDirectory x = Samples.withFullRoutes();
        answers.dueIllegalArgument("no such issuer", () -> x.route(6, 5, 1));
        answers.dueIllegalArgument("no such issuer below", () -> x.route(-1, 5, 1));
        answers.dueIllegalArgument("0 digits", () -> x.route(0, 5, 0));
        answers.dueIllegalArgument("9 digits", () -> x.route(0, 5, 9));
        answers.dueIllegalArgument("prefix has more", () -> x.route(0, 10, 1));
        answers.dueIllegalArgument("prefix below 0", () -> x.route(0, -1, 1));
        answers.dueIllegalState("all are right", () -> x.route(0, 5, 1));
    }

    private static void firstOfAccount(Answers answers) {
        CardDirectory x = Samples.withFullAccounts();
        for (int issuer : Samples.outOf(6)) {
            answers.dueIllegalArgument("no such issuer", () -> x.account(issuer));
        }
        answers.dueIllegalState("all are right", () -> x.account(5));
    }

    private static void firstOfCard(Answers answers) {
        CardDirectory x = Samples.withFullCards();
        long next = Samples.numberOfCard(100);
        answers.dueIllegalArgument("too short", () -> x.card(1, 0));
        answers.dueIllegalArgument("11 digits", () -> x.card(Samples.good(4000000000L), 0));
        answers.dueIllegalArgument("too long", () -> x.card(Samples.LEAST_OF_19_DIGITS, 0));
        answers.dueIllegalArgument("below 0", () -> x.card(-next, 0));
        answers.dueIllegalArgument("no such account", () -> x.card(next, 3));
        answers.dueIllegalArgument("no such account below", () -> x.card(next, -1));
        answers.dueIllegalState("all are right", () -> x.card(next, 0));
    }
}
