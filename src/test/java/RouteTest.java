/** Promises 2, 3, 4 and 8: route, unroute, routes, whose. */
public final class RouteTest {
    private static final int NONE = CardDirectory.NONE;

    public static void main(String[] args) {
        Answers answers = new Answers();
        answers.sentence("2: the row that prefix is (with 0s in front)", RouteTest::zerosInFront);
        answers.sentence("2: leads to an issuer: NONE", RouteTest::newRoutes);
        answers.sentence("2: also instead of another one: to which it led", RouteTest::insteadOfAnother);
        answers.sentence("2: illegal argument: no such issuer", RouteTest::noSuchIssuer);
        answers.sentence("2: illegal argument: digits are not 1 .. 8", RouteTest::digitsOutOfBounds);
        answers.sentence("2: illegal argument: prefix has more", RouteTest::prefixHasMore);
        answers.sentence("2: illegal argument: prefix is below 0", RouteTest::prefixBelowZero);
        answers.sentence("2: illegal state: there are 40 routes", RouteTest::fullOfRoutes);
        answers.sentence("2: with 40 routes one leads elsewhere", RouteTest::insteadWhenFull);
        answers.sentence("2: with 40 routes one goes: there is room", RouteTest::roomAgain);
        answers.sentence("3: a route goes: to which issuer it led", RouteTest::routeGoes);
        answers.sentence("3: a route goes: the others stay", RouteTest::othersStay);
        answers.sentence("3: NONE if there was none", RouteTest::noneThere);
        answers.sentence("3: illegal argument: digits", RouteTest::unrouteDigitsOutOfBounds);
        answers.sentence("3: illegal argument: prefix", RouteTest::unroutePrefixOutOfBounds);
        answers.sentence("4: how many routes there are", RouteTest::howMany);
        answers.sentence("8: a number of 1 .. 18 digits", RouteTest::whoseOfEachLength);
        answers.sentence("8: NONE", RouteTest::whoseOfNone);
        answers.sentence("8: illegal argument: below 1", RouteTest::whoseBelowOne);
        answers.sentence("8: illegal argument: more digits", RouteTest::whoseOfMoreDigits);
        answers.end();
    }

    private static CardDirectory fresh() {
        return new CardDirectory(10, 2);
    }

    private static void zerosInFront(Answers answers) {
        CardDirectory x = fresh();
        for (int digits = 1; digits <= 8; digits++) {
            int length = digits;
            answers.due("route 4 of " + digits, NONE, () -> x.route(length % 6, 4, length));
            answers.due("route 0 of " + digits, NONE, () -> x.route((length + 1) % 6, 0, length));
        }
        answers.due("each is one of its own", 16, () -> x.routes());
        answers.due("a number begins with 4", 1, () -> x.whose(4));
        answers.due("a number begins with 4, not with 04", 1, () -> x.whose(40000004));
        answers.due("no number begins with 0", NONE, () -> x.whose(50000000));
        for (int digits = 1; digits <= 8; digits++) {
            int length = digits;
            answers.due("unroute 4 of " + digits, length % 6, () -> x.unroute(4, length));
            answers.due("unroute 0 of " + digits, (length + 1) % 6, () -> x.unroute(0, length));
        }
        answers.due("none is left", 0, () -> x.routes());
    }

    private static void newRoutes(Answers answers) {
        int nines = 0;
        for (int digits = 1; digits <= 8; digits++) {
            nines = nines * 10 + 9;
            int row = nines;
            int length = digits;
            CardDirectory x = fresh();
            answers.due("route " + row, NONE, () -> x.route(5, row, length));
            answers.due("whose " + row, 5, () -> x.whose(row));
            answers.due("whose of 18 nines", 5, () -> x.whose(999999999999999999L));
            answers.due("whose of the number before it", NONE, () -> x.whose(row - 1));
            answers.due("whose of a digit less", NONE, () -> x.whose(length == 1 ? 1 : row / 10));
        }
    }

    private static void insteadOfAnother(Answers answers) {
        CardDirectory x = fresh();
        answers.due("a new one", NONE, () -> x.route(0, 4, 1));
        answers.due("from issuer 0", 0, () -> x.route(5, 4, 1));
        answers.due("from issuer 5", 5, () -> x.route(3, 4, 1));
        answers.due("from an issuer to the same", 3, () -> x.route(3, 4, 1));
        answers.due("it leads to the last one", 3, () -> x.whose(4));
        answers.due("there is one still", 1, () -> x.routes());
        answers.due("it goes once", 3, () -> x.unroute(4, 1));
        answers.due("no other is behind it", NONE, () -> x.whose(4));
        answers.due("what went does not count", NONE, () -> x.route(1, 4, 1));
    }

    private static void noSuchIssuer(Answers answers) {
        CardDirectory x = fresh();
        x.route(1, 4, 1);
        for (int issuer : Samples.outOf(6)) {
            answers.dueIllegalArgument("route(" + issuer + ", 4, 1)", () -> x.route(issuer, 4, 1));
            answers.dueIllegalArgument("route(" + issuer + ", 5, 1)", () -> x.route(issuer, 5, 1));
        }
        answers.due("the route is as it was", 1, () -> x.whose(4));
        answers.due("there is no other", 1, () -> x.routes());
    }

    private static void digitsOutOfBounds(Answers answers) {
        CardDirectory x = fresh();
        for (int digits : new int[] {0, 9, -1, 10, -8, 18, Integer.MIN_VALUE, Integer.MAX_VALUE}) {
            answers.dueIllegalArgument("route(0, 4, " + digits + ")", () -> x.route(0, 4, digits));
            answers.dueIllegalArgument("route(0, 0, " + digits + ")", () -> x.route(0, 0, digits));
        }
        answers.dueIllegalArgument("9 digits of 9", () -> x.route(0, 123456789, 9));
        answers.due("1 digit", NONE, () -> x.route(0, 4, 1));
        answers.due("8 digits", NONE, () -> x.route(0, 4, 8));
        answers.due("there are these two", 2, () -> x.routes());
    }

    private static void prefixHasMore(Answers answers) {
        int power = 1;
        for (int digits = 1; digits <= 8; digits++) {
            power *= 10;
            int least = power;
            int length = digits;
            CardDirectory x = fresh();
            answers.dueIllegalArgument(least + " of " + digits, () -> x.route(0, least, length));
            answers.dueIllegalArgument((least + 4) + " of " + digits, () -> x.route(0, least + 4, length));
            answers.dueIllegalArgument("the largest int of " + digits, () -> x.route(0, Integer.MAX_VALUE, length));
            answers.due((least - 1) + " of " + digits, NONE, () -> x.route(0, least - 1, length));
            answers.due("there is this one", 1, () -> x.routes());
        }
    }

    private static void prefixBelowZero(Answers answers) {
        CardDirectory x = fresh();
        for (int prefix : new int[] {-1, -4, -9, -10, -99999999, Integer.MIN_VALUE, Integer.MIN_VALUE + 1}) {
            answers.dueIllegalArgument(prefix + " of 1", () -> x.route(0, prefix, 1));
            answers.dueIllegalArgument(prefix + " of 8", () -> x.route(0, prefix, 8));
        }
        answers.due("there is none", 0, () -> x.routes());
        answers.due("0 is not below 0", NONE, () -> x.route(0, 0, 1));
    }

    private static void fullOfRoutes(Answers answers) {
        CardDirectory x = fresh();
        for (int i = 0; i < Samples.MOST_ROUTES; i++) {
            int prefix = 100 + i;
            answers.due("route " + prefix, NONE, () -> x.route(prefix % 6, prefix, 3));
        }
        answers.due("there are 40", 40, () -> x.routes());
        answers.dueIllegalState("the 41st", () -> x.route(0, 140, 3));
        answers.dueIllegalState("the 41st, of another length", () -> x.route(0, 100, 4));
        answers.dueIllegalState("the 41st, once more", () -> x.route(0, 140, 3));
        answers.due("there are 40 still", 40, () -> x.routes());
        answers.due("it leads nowhere", NONE, () -> x.whose(140));
    }

    private static void insteadWhenFull(Answers answers) {
        CardDirectory x = Samples.withFullRoutes();
        for (int i = 0; i < Samples.MOST_ROUTES; i++) {
            int prefix = 100 + i;
            int old = i % 6;
            answers.due("route " + prefix, old, () -> x.route(5 - old, prefix, 3));
            answers.due("whose " + prefix, 5 - old, () -> x.whose(prefix));
        }
        answers.due("there are 40", 40, () -> x.routes());
    }

    private static void roomAgain(Answers answers) {
        CardDirectory x = Samples.withFullRoutes();
        answers.due("none goes", NONE, () -> x.unroute(5, 1));
        answers.dueIllegalState("there is no room", () -> x.route(0, 5, 1));
        answers.due("one goes", 0, () -> x.unroute(100, 3));
        answers.due("there is room", NONE, () -> x.route(2, 5, 1));
        answers.dueIllegalState("for one", () -> x.route(0, 100, 3));
        answers.due("the new one leads", 2, () -> x.whose(5));
        answers.due("the old one does not", NONE, () -> x.whose(100));
    }

    private static void routeGoes(Answers answers) {
        for (int i = 0; i < Samples.MOST_ROUTES; i++) {
            CardDirectory x = Samples.withFullRoutes();
            int prefix = 100 + i;
            int issuer = i % 6;
            answers.due("unroute " + prefix, issuer, () -> x.unroute(prefix, 3));
            answers.due("it leads nowhere", NONE, () -> x.whose(prefix));
            answers.due("it is gone", NONE, () -> x.unroute(prefix, 3));
            answers.due("one less", 39, () -> x.routes());
        }
    }

    private static void othersStay(Answers answers) {
        for (int gone : new int[] {0, 1, 20, 38, 39}) {
            CardDirectory x = Samples.withFullRoutes();
            x.unroute(100 + gone, 3);
            for (int i = 0; i < Samples.MOST_ROUTES; i++) {
                int prefix = 100 + i;
                answers.due("without " + gone + ", whose " + prefix, i == gone ? NONE : i % 6, () -> x.whose(prefix));
            }
        }
        CardDirectory x = Samples.withFullRoutes();
        for (int i = Samples.MOST_ROUTES - 1; i >= 0; i--) {
            int prefix = 100 + (i * 7) % 40;
            answers.due("all go, " + prefix, (prefix - 100) % 6, () -> x.unroute(prefix, 3));
        }
        answers.due("none is left", 0, () -> x.routes());
    }

    private static void noneThere(Answers answers) {
        CardDirectory x = fresh();
        answers.due("of no routes", NONE, () -> x.unroute(4, 1));
        x.route(0, 4, 1);
        x.route(1, 41234567, 8);
        answers.due("of another row", NONE, () -> x.unroute(5, 1));
        answers.due("of more digits", NONE, () -> x.unroute(4, 2));
        answers.due("of a row that it begins with", NONE, () -> x.unroute(412, 3));
        answers.due("of a row that begins with it", NONE, () -> x.unroute(40, 2));
        answers.due("both are there", 2, () -> x.routes());
        answers.due("issuer 0 is not NONE", 0, () -> x.unroute(4, 1));
        answers.due("of one that is gone", NONE, () -> x.unroute(4, 1));
    }

    private static void unrouteDigitsOutOfBounds(Answers answers) {
        CardDirectory x = fresh();
        x.route(1, 4, 1);
        x.route(1, 4, 8);
        for (int digits : new int[] {0, 9, -1, 10, -8, 18, Integer.MIN_VALUE, Integer.MAX_VALUE}) {
            answers.dueIllegalArgument("unroute(4, " + digits + ")", () -> x.unroute(4, digits));
            answers.dueIllegalArgument("unroute(0, " + digits + ")", () -> x.unroute(0, digits));
        }
        answers.due("both are there", 2, () -> x.routes());
        answers.due("8 digits", 1, () -> x.unroute(4, 8));
        answers.due("1 digit", 1, () -> x.unroute(4, 1));
    }

    private static void unroutePrefixOutOfBounds(Answers answers) {
        CardDirectory x = fresh();
        int power = 1;
        for (int digits = 1; digits <= 8; digits++) {
            power *= 10;
            int least = power;
            int length = digits;
            answers.dueIllegalArgument(least + " of " + digits, () -> x.unroute(least, length));
            answers.dueIllegalArgument("the largest int of " + digits, () -> x.unroute(Integer.MAX_VALUE, length));
            answers.dueIllegalArgument("-1 of " + digits, () -> x.unroute(-1, length));
            answers.dueIllegalArgument("the least int of " + digits, () -> x.unroute(Integer.MIN_VALUE, length));
            answers.due((least - 1) + " of " + digits, NONE, () -> x.unroute(least - 1, length));
        }
    }

    private static void howMany(Answers answers) {
        CardDirectory x = fresh();
        answers.due("at first", 0, () -> x.routes());
        x.unroute(4, 1);
        answers.due("after none went", 0, () -> x.routes());
        for (int i = 1; i <= Samples.MOST_ROUTES; i++) {
            int now = i;
            x.route(0, 100 + i, 3);
            answers.due("after " + now, now, () -> x.routes());
        }
        x.route(1, 101, 3);
        answers.due("after one led elsewhere", 40, () -> x.routes());
        for (int i = Samples.MOST_ROUTES; i >= 1; i--) {
            int left = i - 1;
            x.unroute(100 + i, 3);
            answers.due("with " + left + " left", left, () -> x.routes());
        }
    }

    private static void whoseOfEachLength(Answers answers) {
        CardDirectory x = fresh();
        x.route(0, 4, 1);
        long least = 4;
        long most = 4;
        for (int digits = 1; digits <= 18; digits++) {
            long low = least;
            long high = most;
            answers.due("whose(" + low + ")", 0, () -> x.whose(low));
            answers.due("whose(" + high + ")", 0, () -> x.whose(high));
            answers.due("whose(" + (low - 1) + ")", NONE, () -> x.whose(low - 1));
            answers.due("whose(" + (high + 1) + ")", NONE, () -> x.whose(high + 1));
            least *= 10;
            most = most * 10 + 9;
        }
    }

    private static void whoseOfNone(Answers answers) {
        CardDirectory x = fresh();
        x.route(1, 5, 1);
        x.route(2, 41234567, 8);
        answers.due("no such beginning", NONE, () -> x.whose(45));
        answers.due("shorter than the route", NONE, () -> x.whose(4123456));
        answers.due("another last digit", NONE, () -> x.whose(41234568));
        // 2^32 + 5 and 2^32 * 10 + 41234567: an int would hold of them nothing but the rows of the routes.
        answers.due("a number that an int can't hold", NONE, () -> x.whose(4294967301L));
        answers.due("another one", NONE, () -> x.whose(42949672960L + 41234567));
        answers.due("no route is left", 2, () -> x.unroute(41234567, 8));
        answers.due("for what it led", NONE, () -> x.whose(41234567));
    }

    private static void whoseBelowOne(Answers answers) {
        CardDirectory x = fresh();
        x.route(1, 0, 1);
        x.route(2, 1, 1);
        for (long number : new long[] {0, -1, -10, -Samples.ONE, Long.MIN_VALUE, Long.MIN_VALUE + 1}) {
            answers.dueIllegalArgument("whose(" + number + ")", () -> x.whose(number));
        }
        answers.due("whose(1)", 2, () -> x.whose(1));
    }

    private static void whoseOfMoreDigits(Answers answers) {
        CardDirectory x = fresh();
        x.route(1, 1, 1);
        x.route(2, 9, 1);
        for (long number : new long[] {Samples.LEAST_OF_19_DIGITS, Samples.LEAST_OF_19_DIGITS + 1,
            9000000000000000000L, Long.MAX_VALUE}) {
            answers.dueIllegalArgument("whose(" + number + ")", () -> x.whose(number));
        }
        answers.due("of 18 digits", 2, () -> x.whose(Samples.LEAST_OF_19_DIGITS - 1));
    }
}
