/** Promises 9 and 10: good, digit. */
public final class NumberTest {
    public static void main(String[] args) {
        Answers answers = new Answers();
        answers.sentence("9: whether a number is GOOD", NumberTest::goodOnes);
        answers.sentence("9: a number of 1 .. 18 digits", NumberTest::goodOfEachLength);
        answers.sentence("9: illegal argument", NumberTest::goodOutOfBounds);
        answers.sentence("10: the digit that makes a number GOOD", NumberTest::digitMakesGood);
        answers.sentence("10: the digit is 0 where the sum is a multiple of 10 without it", NumberTest::digitZero);
        answers.sentence("10: a number of 1 .. 17 digits", NumberTest::digitOfEachLength);
        answers.sentence("10: illegal argument: below 1", NumberTest::digitBelowOne);
        answers.sentence("10: illegal argument: 18 digits or more", NumberTest::digitOfMoreDigits);
        answers.end();
    }

    /** One for each call, as an object is used for 512 calls at most. */
    private static CardDirectory fresh() {
        return new CardDirectory(10, 2);
    }

    private static void goodDue(Answers answers, long number, boolean due) {
        answers.due("good(" + number + ")", Answers.bit(due), () -> Answers.bit(fresh().good(number)));
    }

    private static void goodOnes(Answers answers) {
        for (long number : new long[] {18, 26, 34, 42, 59, 67, 75, 83, 91, 79927398713L, 4539578763621486L,
            400000000002L, 411999999999999993L}) {
            goodDue(answers, number, true);
            goodDue(answers, number + 1, false);
            goodDue(answers, number - 1, false);
        }
        for (int number = 1; number <= 20000; number++) {
            goodDue(answers, number, Samples.isGood(String.valueOf(number)));
        }
    }

    private static void goodOfEachLength(Answers answers) {
        for (int number = 1; number <= 9; number++) {
            goodDue(answers, number, false);
        }
        long ones = 1;
        long nines = 9;
        for (int digits = 2; digits <= 18; digits++) {
            long low = Samples.good(ones);
            long high = Samples.good(nines);
            goodDue(answers, low, true);
            goodDue(answers, low % 10 == 9 ? low - 1 : low + 1, false);
            goodDue(answers, high, true);
            goodDue(answers, high % 10 == 9 ? high - 1 : high + 1, false);
            ones *= 10;
            nines = nines * 10 + 9;
        }
        goodDue(answers, Samples.LEAST_OF_18_DIGITS, false);
        goodDue(answers, Samples.LEAST_OF_19_DIGITS - 1, false);
    }

    private static void goodOutOfBounds(Answers answers) {
        for (long number : Samples.numbersOutOfBounds()) {
            answers.dueIllegalArgument("good(" + number + ")", () -> Answers.bit(fresh().good(number)));
        }
        long goodOf19 = Samples.LEAST_OF_19_DIGITS + 9;
        answers.dueIllegalArgument("good of 19 digits", () -> Answers.bit(fresh().good(goodOf19)));
    }

    private static void digitMakesGood(Answers answers) {
        answers.due("digit(7992739871)", 3, () -> fresh().digit(7992739871L));
        for (int number = 1; number <= 2000; number++) {
            int one = number;
            answers.due("digit(" + number + ")", Samples.lastDigit(String.valueOf(number)), () -> fresh().digit(one));
        }
        long number = 7;
        for (int i = 0; i < 200; i++) {
            long before = number;
            int digit = fresh().digit(before);
            for (int last = 0; last <= 9; last++) {
                goodDue(answers, before * 10 + last, last == digit);
            }
            number = (number * 31 + 17) % 100000000000000000L;
        }
    }

    private static void digitZero(Answers answers) {
        for (long number : new long[] {19, 81, 95, 991, 42000000000L, 10000000000000004L, 99999999999999993L}) {
            answers.due("digit(" + number + ")", 0, () -> fresh().digit(number));
            goodDue(answers, number * 10, true);
        }
    }

    private static void digitOfEachLength(Answers answers) {
        long least = 1;
        long most = 9;
        for (int digits = 1; digits <= 17; digits++) {
            long low = least;
            long high = most;
            answers.due("digit(" + low + ")", Samples.lastDigit(String.valueOf(low)), () -> fresh().digit(low));
            answers.due("digit(" + high + ")", Samples.lastDigit(String.valueOf(high)), () -> fresh().digit(high));
            least *= 10;
            most = most * 10 + 9;
        }
        answers.due("digit of 17 nines", 7, () -> fresh().digit(99999999999999999L));
    }

    private static void digitBelowOne(Answers answers) {
        for (long number : new long[] {0, -1, -9, -18, -99999999999999999L, Long.MIN_VALUE}) {
            answers.dueIllegalArgument("digit(" + number + ")", () -> fresh().digit(number));
        }
    }

    private static void digitOfMoreDigits(Answers answers) {
        for (long number : new long[] {Samples.LEAST_OF_18_DIGITS, Samples.LEAST_OF_18_DIGITS + 1,
            Samples.LEAST_OF_19_DIGITS - 1, Samples.LEAST_OF_19_DIGITS, Long.MAX_VALUE}) {
            answers.dueIllegalArgument("digit(" + number + ")", () -> fresh().digit(number));
        }
    }
}
