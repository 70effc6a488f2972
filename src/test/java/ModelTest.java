import java.util.ArrayList;
import java.util.HashMap;
import java.util.List;
import java.util.Map;
import java.util.Random;

/** Long runs of all calls, compared with a plain model that keeps texts and forgets nothing. */
public final class ModelTest {
    private static final int RUNS = 2000;
    private static final int CALLS = 512;

    public static void main(String[] args) {
        Answers answers = new Answers();
        for (int run = 0; run < RUNS; run++) {
            new Run(run, answers).play(CALLS);
        }
        pastTheLastCall(answers);
        answers.end();
    }

    /** After the 512th call answers are free, but the machine must still not throw. */
    private static void pastTheLastCall(Answers answers) {
        Random random = new Random(7);
        CardDirectory x = new CardDirectory(3, 8);
        int strange = 0;
        for (int i = 0; i < 100000; i++) {
            Run call = new Run(random.nextInt(), answers);
            String got = call.anyCall(x, i / 4);
            if (got.startsWith("throws.") && !got.equals("throws.IllegalArgumentException")
                && !got.equals("throws.IllegalStateException")) {
                strange++;
            }
        }
        answers.compare("strange exceptions", "0", String.valueOf(strange));
    }

    /** One object, its model and a source of arguments that lie close to the document's edges. */
    private static final class Run {
        private final int run;
        private final Random random;
        private final Answers answers;
        private final int weightOfSetup;

        Run(int run, Answers answers) {
            this.run = run;
            this.random = new Random(run * 7919L + 13);
            this.answers = answers;
            this.weightOfSetup = run % 3;
        }

        void play(int calls) {
            int window = pick(-1, 0, 1, 2, 5, 20, 4999, 5000, 5001);
            int many = pick(-1, 0, 1, 2, 3, 7, 8, 9);
            CardDirectory x = new CardDirectory(window, many);
            Model m = new Model(window, many);
            for (int i = 0; i < calls; i++) {
                step(x, m, i);
            }
        }

        private void step(CardDirectory x, Model m, int i) {
            int issuer = random.nextInt(40) == 0 ? pick(-1, 6) : random.nextInt(3);
            int digits = random.nextInt(30) == 0 ? pick(-1, 0, 9) : 1 + random.nextInt(random.nextBoolean() ? 3 : 8);
            int prefix = prefix(digits);
            long number = number(m);
            int account = random.nextInt(20) == 0 ? pick(-1, 64, m.accounts.size()) : below(m.accounts.size());
            int card = random.nextInt(20) == 0 ? pick(-1, 100, m.cards.size()) : below(m.cards.size());
            int time = m.latest + pick(-1, 0, 0, 0, 1, 1, 2, 3, m.window, m.window + 1);
            boolean on = random.nextBoolean();
            int what = random.nextInt(10) == 0 ? pick(-1, 4) : random.nextInt(4);
            String name = "run " + run + ", call " + i + ": ";
            switch (kindOfCall()) {
                case 0: same(name + "route(" + issuer + ", " + prefix + ", " + digits + ")",
                    () -> m.route(issuer, prefix, digits), () -> x.route(issuer, prefix, digits)); break;
                case 1: same(name + "unroute(" + prefix + ", " + digits + ")",
                    () -> m.unroute(prefix, digits), () -> x.unroute(prefix, digits)); break;
                case 2: same(name + "account(" + issuer + ")", () -> m.account(issuer), () -> x.account(issuer)); break;
                case 3: same(name + "card(" + number + ", " + account + ")",
                    () -> m.card(number, account), () -> x.card(number, account)); break;
                case 4: same(name + "block(" + card + ", " + on + ")",
                    () -> m.block(card, on), () -> Answers.bit(x.block(card, on))); break;
                case 5: same(name + "whose(" + number + ")", () -> m.whose(number), () -> x.whose(number)); break;
                case 6: same(name + "good(" + number + ")", () -> m.good(number), () -> Answers.bit(x.good(number))); break;
                case 7: same(name + "digit(" + number + ")", () -> m.digit(number), () -> x.digit(number)); break;
                case 8: same(name + "use(" + number + ", " + time + ")",
                    () -> m.use(number, time), () -> x.use(number, time)); break;
                case 9: same(name + "used(" + account + ", " + time + ")",
                    () -> m.used(account, time), () -> x.used(account, time)); break;
                case 10: same(name + "told(" + card + ", " + what + ")",
                    () -> m.told(card, what), () -> x.told(card, what)); break;
                default: same(name + "routes()", () -> m.routes.size(), () -> x.routes()); break;
            }
        }

        String anyCall(CardDirectory x, int time) {
            int a = pick(Integer.MIN_VALUE, -1, 0, 1, 4, 5, 6, 8, 63, 64, 99, 100, 99999999, Integer.MAX_VALUE);
            int b = pick(Integer.MIN_VALUE, -1, 0, 1, 2, 3, 4, 7, 8, 9, Integer.MAX_VALUE);
            long number = pick(0, 1) == 0 ? random.nextLong() : 400000000002L + 10L * random.nextInt(200);
            switch (random.nextInt(12)) {
                case 0: return Answers.outcome(() -> x.route(random.nextInt(6), random.nextInt(60), 2));
                case 1: return Answers.outcome(() -> x.route(a, b, pick(1, 2, 8, a)));
                case 2: return Answers.outcome(() -> x.unroute(a, b));
                case 3: return Answers.outcome(() -> x.account(b));
                case 4: return Answers.outcome(() -> x.card(number, random.nextInt(64)));
                case 5: return Answers.outcome(() -> Answers.bit(x.block(a, false)));
                case 6: return Answers.outcome(() -> x.whose(number));
                case 7: return Answers.outcome(() -> Answers.bit(x.good(number)));
                case 8: return Answers.outcome(() -> x.digit(number));
                case 9: return Answers.outcome(() -> x.use(number, time));
                case 10: return Answers.outcome(() -> x.used(a, time));
                default: return Answers.outcome(() -> x.told(a, b));
            }
        }

        private void same(String call, Answers.Call model, Answers.Call made) {
            answers.compare(call, Answers.outcome(model), Answers.outcome(made));
        }

        /** Some runs fill the tables to their limits, the others mostly use the cards. */
        private int kindOfCall() {
            int chance = random.nextInt(10);
            if (weightOfSetup == 0 && chance < 6) {
                return pick(0, 2, 3, 3, 3);
            }
            if (weightOfSetup == 1 && chance < 5) {
                return pick(8, 8, 9);
            }
            return random.nextInt(12);
        }

        private int prefix(int digits) {
            if (random.nextInt(30) == 0) {
                return pick(-1, 10, 100, 100000000, Integer.MAX_VALUE);
            }
            String text = "";
            for (int i = 0; i < digits; i++) {
                text += i == 0 ? pick(0, 4, 4, 4) : random.nextInt(random.nextInt(4) == 0 ? 10 : 2);
            }
            return text.isEmpty() || text.length() > 9 ? 4 : Integer.parseInt(text);
        }

        private long number(Model m) {
            if (random.nextInt(3) > 0 && !m.cards.isEmpty() && random.nextBoolean()) {
                return Long.parseLong(m.cards.get(below(m.cards.size())).number);
            }
            if (random.nextInt(40) == 0) {
                return pick(0, 1) == 0 ? -random.nextInt(50) : Long.MAX_VALUE - random.nextInt(50);
            }
            int length = random.nextInt(5) == 0 ? 1 + random.nextInt(19) : 12 + random.nextInt(7);
            StringBuilder text = new StringBuilder(random.nextInt(8) == 0 ? "5" : "4");
            while (text.length() < length) {
                text.append(random.nextInt(text.length() > 8 ? 10 : 2));
            }
            if (length > 1 && length < 19 && random.nextInt(6) > 0) {
                text.setLength(length - 1);
                text.append(Samples.lastDigit(text.toString()));
            }
            return Long.parseLong(text.toString());
        }

        private int below(int size) {
            return size == 0 ? 0 : random.nextInt(size);
        }

        private int pick(int... values) {
            return values[random.nextInt(values.length)];
        }
    }

    private static final class Card {
        String number;
        int account;
        boolean blocked;
    }

    /** The document's words, over texts. */
    private static final class Model {
        final int window;
        final int many;
        final Map<String, Integer> routes = new HashMap<>();
        final List<Integer> accounts = new ArrayList<>();
        final List<Card> cards = new ArrayList<>();
        final List<int[]> uses = new ArrayList<>();
        int latest = 0;

        Model(int window, int many) {
            this.window = window < 1 ? 1 : window > 5000 ? 5000 : window;
            this.many = many < 1 ? 1 : many > 8 ? 8 : many;
        }

        static void refuse(boolean wrong) {
            if (wrong) {
                throw new IllegalArgumentException();
            }
        }

        static String digits(long number, int least, int most) {
            refuse(number < 1);
            String text = String.valueOf(number);
            refuse(text.length() < least || text.length() > most);
            return text;
        }

        static String row(int prefix, int digits) {
            refuse(digits < 1 || digits > 8 || prefix < 0);
            String text = String.format("%0" + digits + "d", prefix);
            refuse(text.length() > digits);
            return text;
        }

        int issuer(String number) {
            String longest = "";
            for (String route : routes.keySet()) {
                if (number.startsWith(route) && route.length() > longest.length()) {
                    longest = route;
                }
            }
            return longest.isEmpty() ? -1 : routes.get(longest);
        }

        Card cardOf(String number) {
            for (Card card : cards) {
                if (card.number.equals(number)) {
                    return card;
                }
            }
            return null;
        }

        long route(int issuer, int prefix, int digits) {
            refuse(issuer < 0 || issuer > 5);
            String row = row(prefix, digits);
            if (!routes.containsKey(row) && routes.size() == 40) {
                throw new IllegalStateException();
            }
            Integer old = routes.put(row, issuer);
            return old == null ? -1 : old;
        }

        long unroute(int prefix, int digits) {
            Integer old = routes.remove(row(prefix, digits));
            return old == null ? -1 : old;
        }

        long account(int issuer) {
            refuse(issuer < 0 || issuer > 5);
            if (accounts.size() == 64) {
                throw new IllegalStateException();
            }
            accounts.add(issuer);
            return accounts.size() - 1;
        }

        long card(long number, int account) {
            String text = digits(number, 12, 18);
            refuse(account < 0 || account >= accounts.size());
            if (cards.size() == 100) {
                throw new IllegalStateException();
            }
            int issuer = issuer(text);
            if (!Samples.isGood(text)) {
                return -5;
            }
            if (issuer == -1) {
                return -6;
            }
            if (issuer != accounts.get(account)) {
                return -7;
            }
            if (cardOf(text) != null) {
                return -8;
            }
            Card card = new Card();
            card.number = text;
            card.account = account;
            cards.add(card);
            return cards.size() - 1;
        }

        long block(int card, boolean on) {
            refuse(card < 0 || card >= cards.size());
            boolean was = cards.get(card).blocked;
            cards.get(card).blocked = on;
            return was ? 1 : 0;
        }

        long whose(long number) {
            return issuer(digits(number, 1, 18));
        }

        long good(long number) {
            return Samples.isGood(digits(number, 1, 18)) ? 1 : 0;
        }

        long digit(long number) {
            return Samples.lastDigit(digits(number, 1, 17));
        }

        long use(long number, int time) {
            String text = digits(number, 1, 18);
            refuse(time < 0 || time < latest);
            latest = time;
            if (issuer(text) == -1) {
                return 92;
            }
            Card card = cardOf(text);
            if (!Samples.isGood(text) || card == null) {
                return 14;
            }
            if (card.blocked) {
                return 62;
            }
            if (count(card.account, time) >= many) {
                return 65;
            }
            uses.add(new int[] {card.account, time});
            return 0;
        }

        long used(int account, int time) {
            refuse(account < 0 || account >= accounts.size());
            refuse(time < 0 || time < latest);
            return count(account, time);
        }

        int count(int account, int time) {
            int count = 0;
            for (int[] use : uses) {
                if (use[0] == account && (long) time - use[1] <= window) {
                    count++;
                }
            }
            return count;
        }

        long told(int card, int what) {
            refuse(card < 0 || card >= cards.size() || what < 0 || what > 3);
            Card one = cards.get(card);
            long[] all = {one.account, one.number.length(), one.blocked ? 1 : 0, issuer(one.number)};
            return all[what];
        }
    }
}
