/** Promises 6, 7 and 13: card, block, told. */
public final class CardTest {
    private static final int MOST = 100;

    public static void main(String[] args) {
        Answers answers = new Answers();
        making(answers);
        whichAnswerFirst(answers);
        lengths(answers);
        full(answers);
        blocking(answers);
        telling(answers);
        answers.end();
    }

    private static CardDirectory withRoutes() {
        CardDirectory x = new CardDirectory(10, 2);
        x.route(1, 4, 1);
        x.route(2, 41, 2);
        x.account(1);
        x.account(2);
        return x;
    }

    /** A number that is GOOD: the given digits and their check digit. */
    private static long goodNumber(CardDirectory x, long digits) {
        return digits * 10 + x.digit(digits);
    }

    private static void making(Answers answers) {
        CardDirectory x = withRoutes();
        answers.due("the first card", 0, () -> x.card(400000000002L, 0));
        answers.due("of a longer route", 1, () -> x.card(412000000007L, 1));
        answers.due("not GOOD", CardDirectory.BAD, () -> x.card(400000000003L, 0));
        answers.due("no route", CardDirectory.NOWHERE, () -> x.card(500000000009L, 0));
        answers.due("of another issuer", CardDirectory.ELSEWHERE, () -> x.card(411000000009L, 0));
        answers.due("there is one", CardDirectory.DOUBLE, () -> x.card(400000000002L, 0));
        answers.due("what was refused took no number", 2, () -> x.card(411000000009L, 1));
        answers.dueIllegalArgument("account -1", () -> x.card(420000000000L, -1));
        answers.dueIllegalArgument("account 2", () -> x.card(420000000000L, 2));
        answers.dueIllegalArgument("account max", () -> x.card(420000000000L, Integer.MAX_VALUE));
        answers.dueIllegalArgument("account min", () -> x.card(420000000000L, Integer.MIN_VALUE));
        answers.due("the next card", 3, () -> x.card(420000000000L, 0));
    }

    private static void whichAnswerFirst(Answers answers) {
        CardDirectory x = withRoutes();
        x.card(400000000002L, 0);
        answers.due("BAD before NOWHERE", CardDirectory.BAD, () -> x.card(500000000008L, 0));
        answers.due("BAD before ELSEWHERE", CardDirectory.BAD, () -> x.card(412000000008L, 0));
        answers.due("ELSEWHERE before DOUBLE", CardDirectory.ELSEWHERE, () -> x.card(400000000002L, 1));
        x.unroute(4, 1);
        answers.due("NOWHERE before DOUBLE", CardDirectory.NOWHERE, () -> x.card(400000000002L, 0));
        x.route(2, 4, 1);
        answers.due("DOUBLE for another account", CardDirectory.DOUBLE, () -> x.card(400000000002L, 1));
        answers.dueIllegalArgument("no account before BAD", () -> x.card(400000000003L, 2));
        answers.dueIllegalArgument("too short before BAD", () -> x.card(40000000001L, 0));
    }

    private static void lengths(Answers answers) {
        CardDirectory x = withRoutes();
        long digits = 4;
        int made = 0;
        for (int length = 2; length <= 18; length++) {
            long number = goodNumber(x, digits);
            if (length < 12) {
                answers.dueIllegalArgument(length + " digits", () -> x.card(number, 0));
            } else {
                int card = made++;
                int told = length;
                answers.due(length + " digits", card, () -> x.card(number, 0));
                answers.due("told of " + length + " digits", told, () -> x.told(card, 1));
            }
            digits *= 10;
        }
        for (long number : new long[] {0, -1, -400000000002L, Long.MIN_VALUE, 99999999999L, 1000000000000000000L,
            Long.MAX_VALUE}) {
            answers.dueIllegalArgument("card(" + number + ")", () -> x.card(number, 0));
        }
    }

    private static void full(Answers answers) {
        CardDirectory x = withRoutes();
        for (int i = 0; i < MOST; i++) {
            int card = i;
            long number = goodNumber(x, 40000000000L + i);
            answers.due("card " + i, card, () -> x.card(number, 0));
        }
        long next = goodNumber(x, 40000000000L + MOST);
        answers.dueIllegalState("the 101st", () -> x.card(next, 0));
        answers.dueIllegalState("one that is not GOOD", () -> x.card(next + 1, 0));
        answers.dueIllegalState("one that is there", () -> x.card(400000000002L, 0));
        answers.dueIllegalArgument("too short comes first", () -> x.card(1, 0));
        answers.dueIllegalArgument("no account comes first", () -> x.card(next, 2));
        answers.due("the last card", 0, () -> x.told(99, 0));
        answers.dueIllegalArgument("none behind it", () -> x.told(100, 0));
        answers.due("the last card is blocked", 0, () -> Answers.bit(x.block(99, true)));
        answers.dueIllegalArgument("none behind it to block", () -> Answers.bit(x.block(100, true)));
        answers.due("a use of the last card", 62, () -> x.use(goodNumber(x, 40000000099L), 0));
        answers.due("a use of the first card", 0, () -> x.use(400000000002L, 0));
        answers.due("a use of the card that was refused", 14, () -> x.use(next, 0));
    }

    private static void blocking(Answers answers) {
        CardDirectory x = withRoutes();
        x.card(400000000002L, 0);
        x.card(420000000000L, 0);
        answers.due("was not, stays so", 0, () -> Answers.bit(x.block(0, false)));
        answers.due("was not", 0, () -> Answers.bit(x.block(0, true)));
        answers.due("told", 1, () -> x.told(0, 2));
        answers.due("told of the other", 0, () -> x.told(1, 2));
        answers.due("was, stays so", 1, () -> Answers.bit(x.block(0, true)));
        answers.due("the use of a blocked one", 62, () -> x.use(400000000002L, 1));
        answers.due("the use of the other", 0, () -> x.use(420000000000L, 1));
        answers.due("was", 1, () -> Answers.bit(x.block(0, false)));
        answers.due("told then", 0, () -> x.told(0, 2));
        answers.due("the use then", 0, () -> x.use(400000000002L, 1));
        for (int card : new int[] {-1, 2, 99, 100, Integer.MIN_VALUE, Integer.MAX_VALUE}) {
            answers.dueIllegalArgument("block(" + card + ", true)", () -> Answers.bit(x.block(card, true)));
            answers.dueIllegalArgument("block(" + card + ", false)", () -> Answers.bit(x.block(card, false)));
        }
    }

    private static void telling(Answers answers) {
        CardDirectory x = withRoutes();
        x.card(400000000002L, 0);
        x.card(411999999999999993L, 1);
        answers.due("account of card 0", 0, () -> x.told(0, 0));
        answers.due("account of card 1", 1, () -> x.told(1, 0));
        answers.due("digits of card 0", 12, () -> x.told(0, 1));
        answers.due("digits of card 1", 18, () -> x.told(1, 1));
        answers.due("issuer of card 1", 2, () -> x.told(1, 3));
        x.unroute(41, 2);
        answers.due("issuer of card 1 by a shorter route", 1, () -> x.told(1, 3));
        x.route(5, 4, 1);
        answers.due("issuer of card 0 now", 5, () -> x.told(0, 3));
        answers.due("its account is as it was", 0, () -> x.told(0, 0));
        x.unroute(4, 1);
        answers.due("no issuer", -1, () -> x.told(0, 3));
        for (int what : new int[] {-1, 4, Integer.MIN_VALUE, Integer.MAX_VALUE}) {
            answers.dueIllegalArgument("told(0, " + what + ")", () -> x.told(0, what));
        }
        for (int card : new int[] {-1, 2, 100, Integer.MIN_VALUE, Integer.MAX_VALUE}) {
            answers.dueIllegalArgument("told(" + card + ", 0)", () -> x.told(card, 0));
        }
    }
}
