/** Promise 5: account. */
public final class AccountTest {
    public static void main(String[] args) {
        Answers answers = new Answers();
        answers.sentence("An account: its number", AccountTest::itsNumber);
        answers.sentence("An account is of its issuer", AccountTest::ofItsIssuer);
        answers.sentence("Illegal argument", AccountTest::noSuchIssuer);
        answers.sentence("Illegal state: there are 64", AccountTest::full);
        answers.end();
    }

    private static void itsNumber(Answers answers) {
        CardDirectory x = new CardDirectory(10, 2);
        for (int i = 0; i < Samples.MOST_ACCOUNTS; i++) {
            int account = i;
            answers.dueIllegalArgument("before account " + i, () -> x.used(account, 0));
            answers.due("account " + i, account, () -> x.account(account % 6));
            answers.due("used of account " + i, 0, () -> x.used(account, 0));
        }
    }

    private static void ofItsIssuer(Answers answers) {
        for (int i = 0; i < 6; i++) {
            int issuer = i;
            CardDirectory x = Samples.withFullAccounts();
            x.route(issuer, 4, 1);
            for (int account = 0; account < Samples.MOST_ACCOUNTS; account++) {
                int one = account;
                if (account % 6 != issuer) {
                    answers.due("account " + account + " is not of issuer " + issuer, CardDirectory.ELSEWHERE,
                        () -> x.card(Samples.ONE, one));
                }
            }
            int last = 63 - (63 - issuer) % 6;
            answers.due("account " + last + " is of issuer " + issuer, 0, () -> x.card(Samples.ONE, last));
        }
    }

    private static void noSuchIssuer(Answers answers) {
        CardDirectory x = new CardDirectory(10, 2);
        for (int issuer : Samples.outOf(6)) {
            answers.dueIllegalArgument("account(" + issuer + ")", () -> x.account(issuer));
        }
        answers.dueIllegalArgument("there is none", () -> x.used(0, 0));
        answers.due("issuer 5", 0, () -> x.account(5));
        answers.due("issuer 0", 1, () -> x.account(0));
    }

    private static void full(Answers answers) {
        CardDirectory x = Samples.withFullAccounts();
        for (int issuer = 0; issuer < 6; issuer++) {
            int one = issuer;
            answers.dueIllegalState("the 65th, of issuer " + issuer, () -> x.account(one));
        }
        answers.due("the 64th is there", 0, () -> x.used(63, 0));
        answers.dueIllegalArgument("the 65th is not", () -> x.used(64, 0));
    }
}
