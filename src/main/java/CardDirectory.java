import java.util.Arrays;

/** Cards by their numbers: routes, check digits, blocked cards, and how often an account's cards may be used. */
public final class CardDirectory {
    public static final int NONE = -1;
    public static final int BAD = -5;
    public static final int NOWHERE = -6;
    public static final int ELSEWHERE = -7;
    public static final int DOUBLE = -8;

    private static final int ISSUERS = 6;
    private static final int LONGEST_WINDOW = 5000;
    private static final int LARGEST_MANY = 8;
    private static final int MOST_ROUTE_DIGITS = 8;
    private static final int LEAST_CARD_DIGITS = 12;
    private static final int MOST_DIGITS = 18;
    private static final int DIGITS_OF_A_LONG = 19;

    private static final int ANSWER_DONE = 0;
    private static final int ANSWER_NO_CARD = 14;
    private static final int ANSWER_BLOCKED = 62;
    private static final int ANSWER_TOO_OFTEN = 65;
    private static final int ANSWER_NO_ROUTE = 92;

    private final int window;
    private final int many;
    private final RouteTable routeTable;
    private final AccountTable accountTable;
    private final CardTable cardTable;
    // Starts at 0, so that the one test against it also refuses times below 0.
    private int latestTime;

    public CardDirectory(int window, int many) {
        this.window = Math.max(1, Math.min(window, LONGEST_WINDOW));
        this.many = Math.max(1, Math.min(many, LARGEST_MANY));
        this.routeTable = new RouteTable();
        this.accountTable = new AccountTable();
        this.cardTable = new CardTable();
        this.latestTime = 0;
    }

    public int route(int issuer, int prefix, int digits) throws IllegalArgumentException, IllegalStateException {
        requireIssuer(issuer);
        requirePrefix(prefix, digits);
        int at = routeTable.find(prefix, digits);
        if (at != NONE) {
            return routeTable.redirect(at, issuer);
        }
        // Only a route that would be one more is refused: a full table can still be redirected.
        if (routeTable.isFull()) {
            throw new IllegalStateException("there are 40 routes");
        }
        routeTable.add(issuer, prefix, digits);
        return NONE;
    }

    public int unroute(int prefix, int digits) throws IllegalArgumentException {
        requirePrefix(prefix, digits);
        int at = routeTable.find(prefix, digits);
        return at == NONE ? NONE : routeTable.remove(at);
    }

    public int routes() {
        return routeTable.count;
    }

    public int account(int issuer) throws IllegalArgumentException, IllegalStateException {
        requireIssuer(issuer);
        if (accountTable.isFull()) {
            throw new IllegalStateException("there are 64 accounts");
        }
        return accountTable.add(issuer);
    }

    public int card(long number, int account) throws IllegalArgumentException, IllegalStateException {
        requireDigits(number, LEAST_CARD_DIGITS, MOST_DIGITS);
        requireAccount(account);
        if (cardTable.isFull()) {
            throw new IllegalStateException("there are 100 cards");
        }
        if (!isGood(number)) {
            return BAD;
        }
        int issuer = routeTable.issuerFor(number);
        if (issuer == NONE) {
            return NOWHERE;
        }
        if (issuer != accountTable.issuerOf(account)) {
            return ELSEWHERE;
        }
        if (cardTable.find(number) != NONE) {
            return DOUBLE;
        }
        return cardTable.add(number, account);
    }

    public boolean block(int card, boolean on) throws IllegalArgumentException {
        requireCard(card);
        return cardTable.setBlocked(card, on);
    }

    public int whose(long number) throws IllegalArgumentException {
        requireDigits(number, 1, MOST_DIGITS);
        return routeTable.issuerFor(number);
    }

    public boolean good(long number) throws IllegalArgumentException {
        requireDigits(number, 1, MOST_DIGITS);
        return isGood(number);
    }

    public int digit(long number) throws IllegalArgumentException {
        requireDigits(number, 1, MOST_DIGITS - 1);
        return (10 - checkSum(number * 10) % 10) % 10;
    }

    public int use(long number, int time) throws IllegalArgumentException {
        requireDigits(number, 1, MOST_DIGITS);
        requireTime(time);
        // Every use counts as an earlier one for the times of later uses, whatever it is answered.
        latestTime = time;
        if (routeTable.issuerFor(number) == NONE) {
            return ANSWER_NO_ROUTE;
        }
        int card = isGood(number) ? cardTable.find(number) : NONE;
        if (card == NONE) {
            return ANSWER_NO_CARD;
        }
        if (cardTable.isBlocked(card)) {
            return ANSWER_BLOCKED;
        }
        int account = cardTable.accountOf(card);
        if (accountTable.usesSince(account, time - window) >= many) {
            return ANSWER_TOO_OFTEN;
        }
        accountTable.noteUse(account, time);
        return ANSWER_DONE;
    }

    public int used(int account, int time) throws IllegalArgumentException {
        requireAccount(account);
        requireTime(time);
        return accountTable.usesSince(account, time - window);
    }

    public long told(int card, int what) throws IllegalArgumentException {
        requireCard(card);
        switch (what) {
            case 0:
                return cardTable.accountOf(card);
            case 1:
                return digitsOf(cardTable.numberOf(card));
            case 2:
                return cardTable.isBlocked(card) ? 1 : 0;
            case 3:
                return routeTable.issuerFor(cardTable.numberOf(card));
            default:
                throw new IllegalArgumentException("what is not 0 .. 3");
        }
    }

    private static void requireIssuer(int issuer) {
        if (issuer < 0 || issuer >= ISSUERS) {
            throw new IllegalArgumentException("no such issuer");
        }
    }

    private static void requirePrefix(int prefix, int digits) {
        if (digits < 1 || digits > MOST_ROUTE_DIGITS) {
            throw new IllegalArgumentException("digits are not 1 .. 8");
        }
        if (prefix < 0 || digitsOf(prefix) > digits) {
            throw new IllegalArgumentException("prefix is below 0 or has more digits");
        }
    }

    private static void requireDigits(long number, int least, int most) {
        int digits = digitsOf(number);
        if (digits < least || digits > most) {
            throw new IllegalArgumentException("the number has too few or too many digits");
        }
    }

    private void requireAccount(int account) {
        if (!accountTable.has(account)) {
            throw new IllegalArgumentException("no such account");
        }
    }

    private void requireCard(int card) {
        if (!cardTable.has(card)) {
            throw new IllegalArgumentException("no such card");
        }
    }

    private void requireTime(int time) {
        if (time < latestTime) {
            throw new IllegalArgumentException("the time is below 0 or below that of the latest use");
        }
    }

    /** A number below 1 counts as one of no digits, so that every bound of at least 1 refuses it. */
    private static int digitsOf(long number) {
        int digits = 0;
        long rest = number;
        while (digits < DIGITS_OF_A_LONG && rest > 0) {
            rest /= 10;
            digits++;
        }
        return digits;
    }

    private static boolean isGood(long number) {
        return checkSum(number) % 10 == 0;
    }

    private static int checkSum(long number) {
        int sum = 0;
        long rest = number;
        for (int place = 0; place < DIGITS_OF_A_LONG && rest > 0; place++) {
            int value = (int) (rest % 10);
            sum += place % 2 == 0 ? value : doubled(value);
            rest /= 10;
        }
        return sum;
    }

    private static int doubled(int value) {
        int twice = 2 * value;
        return twice > 9 ? twice - 9 : twice;
    }

    /** The routes, in no order: a row of digits stands in it once at most. */
    private static final class RouteTable {
        private static final int MOST = 40;

        private final int[] prefixes = new int[MOST];
        private final int[] lengths = new int[MOST];
        private final int[] issuers = new int[MOST];
        private int count = 0;

        boolean isFull() {
            return count >= MOST;
        }

        int find(long prefix, int length) {
            for (int at = 0; at < count && at < MOST; at++) {
                if (lengths[at] == length && prefixes[at] == prefix) {
                    return at;
                }
            }
            return NONE;
        }

        void add(int issuer, int prefix, int length) {
            if (count >= 0 && count < MOST) {
                prefixes[count] = prefix;
                lengths[count] = length;
                issuers[count] = issuer;
                count++;
            }
        }

        int redirect(int at, int issuer) {
            if (!has(at)) {
                return NONE;
            }
            int old = issuers[at];
            issuers[at] = issuer;
            return old;
        }

        /** The last route takes the place of the one that goes, as the order does not matter. */
        int remove(int at) {
            int last = count - 1;
            if (!has(at) || !has(last)) {
                return NONE;
            }
            int old = issuers[at];
            prefixes[at] = prefixes[last];
            lengths[at] = lengths[last];
            issuers[at] = issuers[last];
            count = last;
            return old;
        }

        /** Drops digits from the right, so that the longest route is met first. */
        int issuerFor(long number) {
            long begin = number;
            for (int length = digitsOf(number); length > 0; length--) {
                int at = length > MOST_ROUTE_DIGITS ? NONE : find(begin, length);
                if (has(at)) {
                    return issuers[at];
                }
                begin /= 10;
            }
            return NONE;
        }

        private boolean has(int at) {
            return at >= 0 && at < count && at < MOST;
        }
    }

    /** The accounts, each with its issuer and the times of its latest uses that were answered by 0. */
    private static final class AccountTable {
        private static final int MOST = 64;
        // Times do not fall and no more than MANY uses lie within one WINDOW: the last 8 are all that can count.
        private static final int KEPT = LARGEST_MANY;
        // Below every time less every WINDOW, so that a place without a use never counts.
        private static final int NEVER = -LONGEST_WINDOW - 1;

        private final int[] issuers = new int[MOST];
        private final int[] useTimes = new int[MOST * KEPT];
        private final int[] oldest = new int[MOST];
        private int count = 0;

        AccountTable() {
            Arrays.fill(useTimes, NEVER);
        }

        boolean isFull() {
            return count >= MOST;
        }

        boolean has(int account) {
            return account >= 0 && account < count && account < MOST;
        }

        int add(int issuer) {
            if (count < 0 || count >= MOST) {
                return NONE;
            }
            issuers[count] = issuer;
            count++;
            return count - 1;
        }

        int issuerOf(int account) {
            return has(account) ? issuers[account] : NONE;
        }

        int usesSince(int account, int time) {
            if (!has(account)) {
                return 0;
            }
            int uses = 0;
            int first = account * KEPT;
            for (int at = first; at < first + KEPT; at++) {
                if (useTimes[at] >= time) {
                    uses++;
                }
            }
            return uses;
        }

        void noteUse(int account, int time) {
            if (!has(account)) {
                return;
            }
            int place = oldest[account];
            if (place >= 0 && place < KEPT) {
                useTimes[account * KEPT + place] = time;
                oldest[account] = (place + 1) % KEPT;
            }
        }
    }

    /** The cards, each with its number, its account and whether it is blocked. */
    private static final class CardTable {
        private static final int MOST = 100;

        private final long[] numbers = new long[MOST];
        private final int[] accounts = new int[MOST];
        private final boolean[] blocked = new boolean[MOST];
        private int count = 0;

        boolean isFull() {
            return count >= MOST;
        }

        boolean has(int card) {
            return card >= 0 && card < count && card < MOST;
        }

        int find(long number) {
            for (int card = 0; card < count && card < MOST; card++) {
                if (numbers[card] == number) {
                    return card;
                }
            }
            return NONE;
        }

        int add(long number, int account) {
            if (count < 0 || count >= MOST) {
                return NONE;
            }
            numbers[count] = number;
            accounts[count] = account;
            count++;
            return count - 1;
        }

        long numberOf(int card) {
            return has(card) ? numbers[card] : 0;
        }

        int accountOf(int card) {
            return has(card) ? accounts[card] : NONE;
        }

        boolean isBlocked(int card) {
            return has(card) && blocked[card];
        }

        boolean setBlocked(int card, boolean on) {
            boolean was = isBlocked(card);
            if (has(card)) {
                blocked[card] = on;
            }
            return was;
        }
    }
}
