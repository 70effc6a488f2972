/** Promises 6, 7 and 13: card, block, told. */
public final class CardTest {
    private static final int BAD = CardDirectory.BAD;
    private static final int NOWHERE = CardDirectory.NOWHERE;
    private static final int ELSEWHERE = CardDirectory.ELSEWHERE;
    private static final int DOUBLE = CardDirectory.DOUBLE;
    private static final long ONE = Samples.ONE;
    private static final long TWO = Samples.TWO;

    public static void main(String[] args) {
        Answers answers = new Answers();
        answers.sentence("6: its number among cards", CardTest::itsNumber);
        answers.sentence("6: BAD: it is not GOOD", CardTest::bad);
        answers.sentence("6: NOWHERE: it has no route", CardTest::nowhere);
        answers.sentence("6: ELSEWHERE: another issuer than the account's", CardTest::elsewhere);
        answers.sentence("6: DOUBLE: there is one with this number", CardTest::twice);
        answers.sentence("6: the answers in the order in which they are named", CardTest::whichAnswerFirst);
        answers.sentence("6: a card that is refused takes no number", CardTest::refusedTakesNoNumber);
        answers.sentence("6: illegal argument: below 12 digits", CardTest::tooShort);
        answers.sentence("6: 12 .. 18 digits", CardTest::eachLength);
        answers.sentence("6: illegal argument: above 18 digits", CardTest::tooLong);
        answers.sentence("6: illegal argument: no such account", CardTest::noSuchAccount);
        answers.sentence("6: illegal state: there are 100", CardTest::full);
        answers.sentence("6: illegal state with 100, whatever else is so", CardTest::fullBeforeAnswers);
        answers.sentence("7: a card is blocked: whether it was", CardTest::blocked);
        answers.sentence("7: or is not: whether it was", CardTest::notBlocked);
        answers.sentence("7: of one card alone, from the first to the last", CardTest::oneAlone);
        answers.sentence("7: illegal argument", CardTest::noSuchCardToBlock);
        answers.sentence("13: what = 0 its account", CardTest::toldAccount);
        answers.sentence("13: 1 how many digits its number has", CardTest::toldDigits);
        answers.sentence("13: 2 whether it is blocked (1)", CardTest::toldBlocked);
        answers.sentence("13: 3 to which issuer it is routed now, NONE", CardTest::toldIssuer);
        answers.sentence("13: illegal argument: no such card", CardTest::noSuchCardToTell);
        answers.sentence("13: illegal argument: what is none of these", CardTest::noSuchWhat);
        answers.end();
    }

    /** Routes 4 to issuer 1 and 41 to issuer 2, account 0 of issuer 1 and account 1 of issuer 2. */
    private static CardDirectory withRoutes() {
        CardDirectory x = new CardDirectory(10, 2);
        x.route(1, 4, 1);
        x.route(2, 41, 2);
        x.account(1);
        x.account(2);
        return x;
    }

    private static void itsNumber(Answers answers) {
        CardDirectory x = withRoutes();
        answers.due("the first", 0, () -> x.card(ONE, 0));
        answers.due("of another account", 1, () -> x.card(412000000007L, 1));
        answers.due("of the first account again", 2, () -> x.card(TWO, 0));
        answers.due("its account", 0, () -> x.told(2, 0));
    }

    private static void bad(Answers answers) {
        CardDirectory x = withRoutes();
        for (int last = 0; last <= 9; last++) {
            int digit = last;
            answers.due("with " + last + " behind it", last == 2 ? 0 : BAD, () -> x.card(ONE - 2 + digit, 0));
        }
        answers.due("two digits in another order", BAD, () -> x.card(402000000000L, 0));
        answers.due("of 18 digits", BAD, () -> x.card(499999999999999999L, 0));
    }

    private static void nowhere(Answers answers) {
        CardDirectory x = new CardDirectory(10, 2);
        x.account(1);
        answers.due("there are no routes", NOWHERE, () -> x.card(ONE, 0));
        x.route(1, 5, 1);
        x.route(1, 40000001, 8);
        x.route(1, 0, 1);
        answers.due("other routes", NOWHERE, () -> x.card(ONE, 0));
        x.route(1, 40000000, 8);
        answers.due("a route of 8 digits", 0, () -> x.card(ONE, 0));
        x.unroute(40000000, 8);
        answers.due("it is gone", NOWHERE, () -> x.card(Samples.good(40000000009L), 0));
    }

    private static void elsewhere(Answers answers) {
        CardDirectory x = withRoutes();
        answers.due("the shorter route is the account's", ELSEWHERE, () -> x.card(412000000007L, 0));
        answers.due("the longer route would be the account's", ELSEWHERE, () -> x.card(ONE, 1));
        x.route(1, 412, 3);
        answers.due("a route that is longer still", 0, () -> x.card(412000000007L, 0));
        x.route(0, 4, 1);
        answers.due("issuer 0", ELSEWHERE, () -> x.card(ONE, 0));
        answers.due("an account of issuer 0", 2, () -> x.account(0));
        answers.due("issuer 0 for its account", 1, () -> x.card(ONE, 2));
    }

    private static void twice(Answers answers) {
        CardDirectory x = Samples.withCards(10, 2);
        answers.due("the first", DOUBLE, () -> x.card(ONE, 0));
        answers.due("for another account", DOUBLE, () -> x.card(ONE, 1));
        answers.due("the last", DOUBLE, () -> x.card(Samples.OTHER_ACCOUNT, 0));
        x.block(1, true);
        answers.due("a blocked one", DOUBLE, () -> x.card(TWO, 0));
        answers.due("it is blocked still", 1, () -> x.told(1, 2));
        // ONE + 2^32: an int would hold the same of both.
        answers.due("a number that is like it", 3, () -> x.card(404294967298L, 0));
        answers.due("a number with one digit more", 4, () -> x.card(Samples.good(ONE), 0));
    }

    private static void whichAnswerFirst(Answers answers) {
        CardDirectory x = withRoutes();
        x.card(ONE, 0);
        answers.due("BAD before NOWHERE", BAD, () -> x.card(500000000008L, 0));
        answers.due("BAD before ELSEWHERE", BAD, () -> x.card(412000000008L, 0));
        answers.due("ELSEWHERE before DOUBLE", ELSEWHERE, () -> x.card(ONE, 1));
        x.unroute(4, 1);
        answers.due("NOWHERE before DOUBLE", NOWHERE, () -> x.card(ONE, 0));
        answers.dueIllegalArgument("no such account before BAD", () -> x.card(ONE + 1, 2));
        answers.dueIllegalArgument("no such account before NOWHERE", () -> x.card(ONE, 2));
        answers.dueIllegalArgument("too short before BAD", () -> x.card(40000000001L, 0));
    }

    private static void refusedTakesNoNumber(Answers answers) {
        CardDirectory x = withRoutes();
        x.card(ONE, 0);
        x.card(ONE + 1, 0);
        x.card(500000000009L, 0);
        x.card(412000000007L, 0);
        x.card(ONE, 0);
        Answers.outcome(() -> x.card(1, 0));
        Answers.outcome(() -> x.card(TWO, 2));
        answers.dueIllegalArgument("there is no card 1", () -> x.told(1, 0));
        answers.due("the next card", 1, () -> x.card(TWO, 0));
        answers.due("the number that was ELSEWHERE", 2, () -> x.card(412000000007L, 1));
    }

    private static void tooShort(Answers answers) {
        CardDirectory x = withRoutes();
        long digits = 4;
        for (int length = 2; length <= 11; length++) {
            long number = Samples.good(digits);
            answers.dueIllegalArgument(length + " digits", () -> x.card(number, 0));
            digits *= 10;
        }
        x.route(1, 9, 1);
        answers.dueIllegalArgument("the largest of 11 digits", () -> x.card(Samples.good(9999999999L), 0));
        answers.dueIllegalArgument("11 digits, not GOOD", () -> x.card(Samples.LEAST_OF_12_DIGITS - 1, 0));
        for (long number : new long[] {0, 4, -1, -ONE, Long.MIN_VALUE}) {
            answers.dueIllegalArgument("card(" + number + ")", () -> x.card(number, 0));
        }
        answers.dueIllegalArgument("there is no card", () -> x.told(0, 0));
    }

    private static void eachLength(Answers answers) {
        CardDirectory x = new CardDirectory(10, 2);
        x.route(1, 1, 1);
        x.route(1, 9, 1);
        x.account(1);
        long ones = 10000000000L;
        long nines = 99999999999L;
        for (int length = 12; length <= 18; length++) {
            int card = 2 * (length - 12);
            long low = Samples.good(ones);
            long high = Samples.good(nines);
            answers.due("the least of " + length + " digits", card, () -> x.card(low, 0));
            answers.due("the largest of " + length + " digits", card + 1, () -> x.card(high, 0));
            answers.due("a use of the one", 0, () -> x.use(low, 100 * card));
            answers.due("a use of the other", 0, () -> x.use(high, 100 * card));
            ones *= 10;
            nines = nines * 10 + 9;
        }
    }

    private static void tooLong(Answers answers) {
        CardDirectory x = new CardDirectory(10, 2);
        x.route(1, 1, 1);
        x.route(1, 9, 1);
        x.account(1);
        answers.dueIllegalArgument("19 digits, GOOD", () -> x.card(Samples.good(Samples.LEAST_OF_18_DIGITS), 0));
        for (long number : new long[] {Samples.LEAST_OF_19_DIGITS, 9000000000000000000L, Long.MAX_VALUE}) {
            answers.dueIllegalArgument("card(" + number + ")", () -> x.card(number, 0));
        }
        answers.due("18 digits", BAD, () -> x.card(Samples.LEAST_OF_19_DIGITS - 1, 0));
    }

    private static void noSuchAccount(Answers answers) {
        CardDirectory x = new CardDirectory(10, 2);
        x.route(1, 4, 1);
        answers.dueIllegalArgument("there are no accounts", () -> x.card(ONE, 0));
        x.account(1);
        for (int account : Samples.outOf(1)) {
            answers.dueIllegalArgument("account " + account + " of 1", () -> x.card(ONE, account));
        }
        for (int i = 1; i < Samples.MOST_ACCOUNTS; i++) {
            x.account(1);
        }
        for (int account : Samples.outOf(Samples.MOST_ACCOUNTS)) {
            answers.dueIllegalArgument("account " + account + " of 64", () -> x.card(ONE, account));
        }
        answers.due("account 63", 0, () -> x.card(ONE, 63));
        answers.due("account 0", 1, () -> x.card(TWO, 0));
    }

    private static void full(Answers answers) {
        CardDirectory x = withRoutes();
        for (int i = 0; i < Samples.MOST_CARDS; i++) {
            int card = i;
            answers.due("card " + i, card, () -> x.card(Samples.numberOfCard(card), 0));
        }
        long next = Samples.numberOfCard(Samples.MOST_CARDS);
        answers.dueIllegalState("the 101st", () -> x.card(next, 0));
        answers.dueIllegalState("once more", () -> x.card(next, 0));
        answers.due("a use of it", 14, () -> x.use(next, 0));
        answers.dueIllegalArgument("there is no card 100", () -> x.told(100, 0));
        answers.due("the last one is there", 0, () -> x.use(Samples.numberOfCard(99), 0));
        answers.due("the first one is there", 0, () -> x.use(Samples.numberOfCard(0), 0));
    }

    /** The plain words "illegal state: there are 100": then no card is answered by a number below 0. */
    private static void fullBeforeAnswers(Answers answers) {
        CardDirectory x = Samples.withFullCards();
        answers.dueIllegalState("not GOOD", () -> x.card(ONE + 1, 0));
        answers.dueIllegalState("no route", () -> x.card(500000000009L, 0));
        answers.dueIllegalState("of another issuer", () -> x.card(Samples.numberOfCard(100), 2));
        answers.dueIllegalState("there is one", () -> x.card(Samples.numberOfCard(0), 0));
    }

    private static void blocked(Answers answers) {
        CardDirectory x = Samples.withCards(10, 2);
        answers.due("was not", 0, () -> Answers.bit(x.block(0, true)));
        answers.due("was", 1, () -> Answers.bit(x.block(0, true)));
        answers.due("was still", 1, () -> Answers.bit(x.block(0, true)));
        answers.due("the use of it", 62, () -> x.use(ONE, 1));
        answers.due("the use of the account's other card", 0, () -> x.use(TWO, 1));
    }

    private static void notBlocked(Answers answers) {
        CardDirectory x = Samples.withCards(10, 2);
        answers.due("was not", 0, () -> Answers.bit(x.block(0, false)));
        answers.due("was not still", 0, () -> Answers.bit(x.block(0, false)));
        x.block(0, true);
        answers.due("was", 1, () -> Answers.bit(x.block(0, false)));
        answers.due("was not again", 0, () -> Answers.bit(x.block(0, false)));
        answers.due("the use of it", 0, () -> x.use(ONE, 1));
    }

    private static void oneAlone(Answers answers) {
        for (int chosen : new int[] {0, 1, 50, 98, 99}) {
            CardDirectory x = Samples.withFullCards();
            answers.due("block " + chosen, 0, () -> Answers.bit(x.block(chosen, true)));
            for (int i = 0; i < Samples.MOST_CARDS; i++) {
                int card = i;
                answers.due("with " + chosen + ", card " + i, card == chosen ? 1 : 0, () -> x.told(card, 2));
            }
            answers.due("use of " + chosen, 62, () -> x.use(Samples.numberOfCard(chosen), 0));
        }
    }

    private static void noSuchCardToBlock(Answers answers) {
        CardDirectory none = new CardDirectory(10, 2);
        CardDirectory three = Samples.withCards(10, 2);
        CardDirectory all = Samples.withFullCards();
        for (boolean on : new boolean[] {true, false}) {
            for (int card : Samples.outOf(0)) {
                answers.dueIllegalArgument("block " + card + " of none", () -> Answers.bit(none.block(card, on)));
            }
            for (int card : Samples.outOf(3)) {
                answers.dueIllegalArgument("block " + card + " of 3", () -> Answers.bit(three.block(card, on)));
            }
            for (int card : Samples.outOf(Samples.MOST_CARDS)) {
                answers.dueIllegalArgument("block " + card + " of 100", () -> Answers.bit(all.block(card, on)));
            }
        }
        answers.due("the last of 3", 0, () -> Answers.bit(three.block(2, true)));
        answers.due("the last of 100", 0, () -> Answers.bit(all.block(99, true)));
    }

    private static void toldAccount(Answers answers) {
        CardDirectory x = Samples.withAllFull(10, 2);
        for (int i = 0; i < Samples.MOST_CARDS; i++) {
            int card = i;
            answers.due("account of card " + i, card % Samples.MOST_ACCOUNTS, () -> x.told(card, 0));
        }
        CardDirectory y = Samples.withCards(10, 2);
        y.route(5, 4, 1);
        answers.due("its account when it is routed elsewhere", 1, () -> y.told(2, 0));
        y.unroute(4, 1);
        answers.due("its account when it has no route", 1, () -> y.told(2, 0));
    }

    private static void toldDigits(Answers answers) {
        CardDirectory x = withRoutes();
        long digits = 40000000000L;
        for (int length = 12; length <= 18; length++) {
            int due = length;
            x.card(Samples.good(digits), 0);
            answers.due("of " + length + " digits", due, () -> x.told(due - 12, 1));
            digits *= 10;
        }
    }

    private static void toldBlocked(Answers answers) {
        CardDirectory x = Samples.withCards(10, 2);
        answers.due("at first", 0, () -> x.told(0, 2));
        x.block(0, true);
        answers.due("then", 1, () -> x.told(0, 2));
        answers.due("another card", 0, () -> x.told(1, 2));
        x.block(0, true);
        answers.due("blocked twice", 1, () -> x.told(0, 2));
        x.block(0, false);
        answers.due("at last", 0, () -> x.told(0, 2));
    }

    private static void toldIssuer(Answers answers) {
        CardDirectory x = withRoutes();
        x.card(ONE, 0);
        x.card(411999999999999993L, 1);
        answers.due("by the longest route", 2, () -> x.told(1, 3));
        x.unroute(41, 2);
        answers.due("by a shorter route", 1, () -> x.told(1, 3));
        x.route(0, 4, 1);
        answers.due("by a route that leads elsewhere, to issuer 0", 0, () -> x.told(0, 3));
        x.route(5, 41199999, 8);
        answers.due("by a route of 8 digits", 5, () -> x.told(1, 3));
        x.unroute(41199999, 8);
        x.unroute(4, 1);
        answers.due("by none", CardDirectory.NONE, () -> x.told(0, 3));
        answers.due("by none, the other card", CardDirectory.NONE, () -> x.told(1, 3));
    }

    private static void noSuchCardToTell(Answers answers) {
        CardDirectory none = new CardDirectory(10, 2);
        CardDirectory three = Samples.withCards(10, 2);
        CardDirectory all = Samples.withFullCards();
        for (int kind = 0; kind <= 3; kind++) {
            int what = kind;
            for (int card : Samples.outOf(0)) {
                answers.dueIllegalArgument("told " + card + " of none", () -> none.told(card, what));
            }
            for (int card : Samples.outOf(3)) {
                answers.dueIllegalArgument("told " + card + " of 3", () -> three.told(card, what));
            }
            for (int card : Samples.outOf(Samples.MOST_CARDS)) {
                answers.dueIllegalArgument("told " + card + " of 100", () -> all.told(card, what));
            }
        }
    }

    private static void noSuchWhat(Answers answers) {
        CardDirectory x = Samples.withCards(10, 2);
        for (int what : Samples.outOf(4)) {
            answers.dueIllegalArgument("told(0, " + what + ")", () -> x.told(0, what));
            answers.dueIllegalArgument("told(2, " + what + ")", () -> x.told(2, what));
            answers.dueIllegalArgument("told(3, " + what + ")", () -> x.told(3, what));
        }
    }
}
