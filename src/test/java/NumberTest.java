/** Promises 9 and 10: good, digit. */
public final class NumberTest {
    private static final CardDirectory X = new CardDirectory(10, 2);

    public static void main(String[] args) {
        Answers answers = new Answers();
        knownNumbers(answers);
        wrongArguments(answers);
        everyDigitAtEveryPlace(answers);
        digitMakesGood(answers);
        answers.end();
    }

    private static void knownNumbers(Answers answers) {
        for (long number : new long[] {18, 26, 34, 42, 59, 67, 75, 83, 91, 79927398713L, 4539578763621486L,
            400000000002L, 411999999999999993L}) {
            answers.due("good(" + number + ")", 1, () -> Answers.bit(X.good(number)));
            answers.due("good(" + (number + 1) + ")", 0, () -> Answers.bit(X.good(number + 1)));
        }
        for (int number = 1; number <= 9; number++) {
            int one = number;
            answers.due("good(" + one + ")", 0, () -> Answers.bit(X.good(one)));
        }
        answers.due("good(999999999999999999)", 0, () -> Answers.bit(X.good(999999999999999999L)));
        answers.due("digit(7992739871)", 3, () -> X.digit(7992739871L));
        answers.due("digit(99999999999999999)", 7, () -> X.digit(99999999999999999L));
        answers.due("digit 0", 0, () -> X.digit(42000000000L));
    }

    private static void wrongArguments(Answers answers) {
        for (long number : new long[] {0, -1, -18, Long.MIN_VALUE, 1000000000000000000L, Long.MAX_VALUE}) {
            answers.dueIllegalArgument("good(" + number + ")", () -> Answers.bit(X.good(number)));
            answers.dueIllegalArgument("digit(" + number + ")", () -> X.digit(number));
        }
        answers.due("good of 18 digits", 0, () -> Answers.bit(X.good(100000000000000000L)));
        answers.dueIllegalArgument("digit of 18 digits", () -> X.digit(100000000000000000L));
        answers.dueIllegalArgument("digit of 18 nines", () -> X.digit(999999999999999999L));
        answers.due("digit of 17 digits", 8, () -> X.digit(10000000000000000L));
    }

    private static void everyDigitAtEveryPlace(Answers answers) {
        int[] twice = {0, 2, 4, 6, 8, 1, 3, 5, 7, 9};
        long power = 1;
        for (int place = 0; place < 17; place++) {
            for (int value = 1; value <= 9; value++) {
                long number = value * power;
                int counts = place % 2 == 0 ? twice[value] : value;
                answers.due("digit(" + number + ")", (10 - counts) % 10, () -> X.digit(number));
            }
            power *= 10;
        }
    }

    private static void digitMakesGood(Answers answers) {
        long number = 7;
        for (int i = 0; i < 200; i++) {
            long before = number;
            int digit = X.digit(before);
            for (int last = 0; last <= 9; last++) {
                long whole = before * 10 + last;
                answers.due("good(" + whole + ")", last == digit ? 1 : 0, () -> Answers.bit(X.good(whole)));
            }
            number = (number * 31 + 17) % 100000000000000000L;
        }
    }
}
