/** Arguments and objects that several tests use. */
final class Samples {
    static final int MOST_CALLS = 512;
    static final int MOST_ROUTES = 40;
    static final int MOST_ACCOUNTS = 64;
    static final int MOST_CARDS = 100;

    /** Two cards of account 0 and one of account 1 in {@link #withCards}. */
    static final long ONE = 400000000002L;
    static final long TWO = 420000000000L;
    static final long OTHER_ACCOUNT = 430000000009L;

    static final long LEAST_OF_12_DIGITS = 100000000000L;
    static final long LEAST_OF_18_DIGITS = 100000000000000000L;
    static final long LEAST_OF_19_DIGITS = 1000000000000000000L;

    private Samples() {
    }

    /** Numbers that have not 1 .. 18 digits, the nearest ones first. */
    static long[] numbersOutOfBounds() {
        return new long[] {0, LEAST_OF_19_DIGITS, -1, -18, -ONE, LEAST_OF_19_DIGITS + 9, 9000000000000000000L,
            Long.MIN_VALUE, Long.MIN_VALUE + 1, Long.MAX_VALUE};
    }

    /** What is not 0 .. below, the nearest ones first. */
    static int[] outOf(int below) {
        return new int[] {-1, below, -2, below + 1, -below, 1 << 16, Integer.MIN_VALUE, Integer.MAX_VALUE};
    }

    /** The document's words over the text of a number, so that no test asks the class for what is due. */
    static boolean isGood(String number) {
        int sum = 0;
        for (int fromRight = 1; fromRight <= number.length(); fromRight++) {
            int value = number.charAt(number.length() - fromRight) - '0';
            int counts = fromRight % 2 == 0 ? 2 * value : value;
            sum += counts > 9 ? counts - 9 : counts;
        }
        return sum % 10 == 0;
    }

    static int lastDigit(String number) {
        for (int last = 0; last <= 9; last++) {
            if (isGood(number + last)) {
                return last;
            }
        }
        throw new AssertionError(number);
    }

    /** The GOOD number that begins with all these digits and has one more. */
    static long good(long digits) {
        return digits * 10 + lastDigit(String.valueOf(digits));
    }

    /** The numbers of the cards in {@link #withFullCards}. */
    static long numberOfCard(int card) {
        return good(40000000000L + card);
    }

    static CardDirectory withCards(int window, int many) {
        CardDirectory x = new CardDirectory(window, many);
        x.route(1, 4, 1);
        x.account(1);
        x.account(1);
        x.card(ONE, 0);
        x.card(TWO, 0);
        x.card(OTHER_ACCOUNT, 1);
        return x;
    }

    static CardDirectory withFullRoutes() {
        CardDirectory x = new CardDirectory(10, 2);
        for (int i = 0; i < MOST_ROUTES; i++) {
            x.route(i % 6, 100 + i, 3);
        }
        return x;
    }

    static CardDirectory withFullAccounts() {
        CardDirectory x = new CardDirectory(10, 2);
        for (int i = 0; i < MOST_ACCOUNTS; i++) {
            x.account(i % 6);
        }
        return x;
    }

    /** 100 cards of accounts 0 and 1 in turn, and account 2 of another issuer. */
    static CardDirectory withFullCards() {
        CardDirectory x = new CardDirectory(10, 2);
        x.route(1, 4, 1);
        x.account(1);
        x.account(1);
        x.account(2);
        for (int i = 0; i < MOST_CARDS; i++) {
            x.card(numberOfCard(i), i % 2);
        }
        return x;
    }

    /** All that there can be: 40 routes, 64 accounts, 100 cards. */
    static CardDirectory withAllFull(int window, int many) {
        CardDirectory x = new CardDirectory(window, many);
        x.route(1, 4, 1);
        for (int i = 1; i < MOST_ROUTES; i++) {
            x.route(i % 6, 500 + i, 3);
        }
        for (int i = 0; i < MOST_ACCOUNTS; i++) {
            x.account(1);
        }
        for (int i = 0; i < MOST_CARDS; i++) {
            x.card(numberOfCard(i), i % MOST_ACCOUNTS);
        }
        return x;
    }
}
