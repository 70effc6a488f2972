/** Promises 2, 3, 4 and 8: route, unroute, routes, whose. */
public final class RouteTest {
    private static final int MOST = 40;

    public static void main(String[] args) {
        Answers answers = new Answers();
        redirecting(answers);
        leadingZeros(answers);
        longestFirst(answers);
        lengths(answers);
        wrongArguments(answers);
        wrongNumbers(answers);
        full(answers);
        leaving(answers);
        answers.end();
    }

    private static void redirecting(Answers answers) {
        CardDirectory x = new CardDirectory(10, 2);
        answers.due("a new route", -1, () -> x.route(0, 4, 1));
        answers.due("to another issuer", 0, () -> x.route(5, 4, 1));
        answers.due("to the same issuer", 5, () -> x.route(5, 4, 1));
        answers.due("whose", 5, () -> x.whose(4));
        answers.due("still one route", 1, () -> x.routes());
        answers.due("another row", -1, () -> x.route(2, 40, 2));
        answers.due("two routes", 2, () -> x.routes());
        answers.due("the first is as it was", 5, () -> x.unroute(4, 1));
        answers.due("it is gone", -1, () -> x.unroute(4, 1));
        answers.due("one left", 1, () -> x.routes());
        answers.due("made again", -1, () -> x.route(1, 4, 1));
    }

    private static void leadingZeros(Answers answers) {
        CardDirectory x = new CardDirectory(10, 2);
        answers.due("route 4", -1, () -> x.route(1, 4, 1));
        answers.due("route 04 is another", -1, () -> x.route(2, 4, 2));
        answers.due("route 00000004 is another", -1, () -> x.route(3, 4, 8));
        answers.due("route 0", -1, () -> x.route(4, 0, 1));
        answers.due("route 00", -1, () -> x.route(5, 0, 2));
        answers.due("five routes", 5, () -> x.routes());
        answers.due("whose(4)", 1, () -> x.whose(4));
        answers.due("whose(44444444)", 1, () -> x.whose(44444444));
        answers.due("no number begins with 0", -1, () -> x.whose(5));
        answers.due("unroute 04", 2, () -> x.unroute(4, 2));
        answers.due("unroute 004", -1, () -> x.unroute(4, 3));
        answers.due("unroute 0", 4, () -> x.unroute(0, 1));
        answers.due("unroute 00", 5, () -> x.unroute(0, 2));
        answers.due("two routes", 2, () -> x.routes());
    }

    private static void longestFirst(Answers answers) {
        CardDirectory x = new CardDirectory(10, 2);
        x.route(3, 412, 3);
        x.route(1, 4, 1);
        x.route(4, 41234567, 8);
        x.route(2, 41, 2);
        answers.due("whose(4)", 1, () -> x.whose(4));
        answers.due("whose(40)", 1, () -> x.whose(40));
        answers.due("whose(41)", 2, () -> x.whose(41));
        answers.due("whose(411)", 2, () -> x.whose(411));
        answers.due("whose(412)", 3, () -> x.whose(412));
        answers.due("whose(4123456)", 3, () -> x.whose(4123456));
        answers.due("whose(41234567)", 4, () -> x.whose(41234567));
        answers.due("whose(41234568)", 3, () -> x.whose(41234568));
        answers.due("whose(412345670000000000)", 4, () -> x.whose(412345670000000000L));
        answers.due("whose(14)", -1, () -> x.whose(14));
        answers.due("unroute 412", 3, () -> x.unroute(412, 3));
        answers.due("whose(412) then", 2, () -> x.whose(412));
        answers.due("whose(41234567) then", 4, () -> x.whose(41234567));
    }

    private static void lengths(Answers answers) {
        int prefix = 0;
        for (int digits = 1; digits <= 8; digits++) {
            prefix = prefix * 10 + 9;
            int nines = prefix;
            int length = digits;
            CardDirectory x = new CardDirectory(10, 2);
            answers.due("route " + nines, -1, () -> x.route(5, nines, length));
            answers.due("whose " + nines, 5, () -> x.whose(nines));
            answers.due("whose of all nines", 5, () -> x.whose(999999999999999999L));
            answers.due("whose of a digit less", -1, () -> x.whose(Math.max(1, nines / 10)));
            answers.dueIllegalArgument("a digit more, " + nines, () -> x.route(5, nines + 1, length));
            answers.dueIllegalArgument("unroute a digit more", () -> x.unroute(nines + 1, length));
        }
    }

    private static void wrongArguments(Answers answers) {
        CardDirectory x = new CardDirectory(10, 2);
        x.route(1, 4, 1);
        int[][] wrong = {{4, 0}, {4, 9}, {4, -1}, {4, Integer.MIN_VALUE}, {4, Integer.MAX_VALUE}, {0, 0}, {-1, 1},
            {-4, 8}, {Integer.MIN_VALUE, 8}, {Integer.MAX_VALUE, 8}, {10, 1}, {100, 2}, {100000000, 8}};
        for (int[] row : wrong) {
            String name = "(" + row[0] + ", " + row[1] + ")";
            answers.dueIllegalArgument("route" + name, () -> x.route(0, row[0], row[1]));
            answers.dueIllegalArgument("unroute" + name, () -> x.unroute(row[0], row[1]));
        }
        for (int issuer : new int[] {-1, 6, Integer.MIN_VALUE, Integer.MAX_VALUE}) {
            answers.dueIllegalArgument("route of issuer " + issuer, () -> x.route(issuer, 4, 1));
            answers.dueIllegalArgument("new route of issuer " + issuer, () -> x.route(issuer, 5, 1));
        }
        answers.due("nothing is changed", 1, () -> x.routes());
        answers.due("the route is as it was", 1, () -> x.whose(4));
    }

    private static void wrongNumbers(Answers answers) {
        CardDirectory x = new CardDirectory(10, 2);
        x.route(1, 9, 1);
        for (long number : new long[] {0, -1, -9, Long.MIN_VALUE, 1000000000000000000L, 9000000000000000000L,
            Long.MAX_VALUE}) {
            answers.dueIllegalArgument("whose(" + number + ")", () -> x.whose(number));
        }
    }

    private static void full(Answers answers) {
        CardDirectory x = new CardDirectory(10, 2);
        for (int i = 0; i < MOST; i++) {
            int prefix = 100 + i;
            answers.due("route " + prefix, -1, () -> x.route(prefix % 6, prefix, 3));
        }
        answers.due("routes()", MOST, () -> x.routes());
        answers.dueIllegalState("one more", () -> x.route(0, 5, 1));
        answers.dueIllegalArgument("a wrong issuer comes first", () -> x.route(6, 5, 1));
        answers.dueIllegalArgument("a wrong prefix comes first", () -> x.route(0, 10, 1));
        answers.due("nothing is changed", MOST, () -> x.routes());
        answers.due("another issuer for one of them", 139 % 6, () -> x.route(0, 139, 3));
        answers.due("whose", 0, () -> x.whose(139));
        answers.due("a row that is none", -1, () -> x.unroute(5, 1));
        answers.due("one goes", 100 % 6, () -> x.unroute(100, 3));
        answers.due("there is room", -1, () -> x.route(0, 5, 1));
        answers.dueIllegalState("for one", () -> x.route(0, 100, 3));
    }

    private static void leaving(Answers answers) {
        CardDirectory x = new CardDirectory(10, 2);
        for (int i = 1; i <= 5; i++) {
            x.route(i, i, 1);
        }
        answers.due("the middle one goes", 3, () -> x.unroute(3, 1));
        answers.due("the last one goes", 5, () -> x.unroute(5, 1));
        answers.due("the first one goes", 1, () -> x.unroute(1, 1));
        answers.due("routes()", 2, () -> x.routes());
        int[] due = {-1, 2, -1, 4, -1};
        for (int i = 1; i <= 5; i++) {
            int first = i;
            answers.due("whose(" + i + ")", due[i - 1], () -> x.whose(first));
        }
    }
}
