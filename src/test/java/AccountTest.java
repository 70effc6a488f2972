/** Promise 5: account. */
public final class AccountTest {
    public static void main(String[] args) {
        Answers answers = new Answers();
        CardDirectory x = new CardDirectory(10, 2);
        wrongIssuers(answers, x);
        for (int i = 0; i < 64; i++) {
            int issuer = i % 6;
            answers.due("account " + i, i, () -> x.account(issuer));
        }
        answers.dueIllegalState("the 65th", () -> x.account(0));
        wrongIssuers(answers, x);
        answers.due("the last one is there", 0, () -> x.used(63, 0));
        answers.dueIllegalArgument("none behind it", () -> x.used(64, 0));
        eachOfItsIssuer(answers, x);
        answers.end();
    }

    private static void wrongIssuers(Answers answers, CardDirectory x) {
        for (int issuer : new int[] {-1, 6, Integer.MIN_VALUE, Integer.MAX_VALUE}) {
            answers.dueIllegalArgument("account(" + issuer + ")", () -> x.account(issuer));
        }
    }

    private static void eachOfItsIssuer(Answers answers, CardDirectory x) {
        x.route(3, 4, 1);
        long number = 400000000002L;
        for (int i = 0; i < 64; i++) {
            int account = i;
            if (i % 6 != 3) {
                answers.due("a card of issuer 3 for account " + i, CardDirectory.ELSEWHERE, () -> x.card(number, account));
            }
        }
        answers.due("a card of issuer 3 for account 63", 0, () -> x.card(number, 63));
    }
}
