/** Promise 7 once more: the fault of every text that ends with up to four tokens of all that there are. */
public final class FaultTest {
    private static final String[] TOKENS = {"1", "light", "(", ")", "-", "+", "*", "<", "=", "and", "or", "not", ";",
        "likes", "keeps", "offers", "x", "12345", "#"};
    private static final Check check = new Check();

    public static void main(String[] args) {
        behind("likes ", 4);
        behind("likes ((", 3);
        behind("likes not -(1 <", 3);
        behind("likes (((((1 ", 3);
        behind("likes 1 ; keeps 1", 3);
        behind("likes 1 ; keeps 1 ; offers", 3);
        for (String token : TOKENS) {
            fault("likes 1 ; keeps 1 ; offers 1 ; " + token);
            fault("likes 1 ; keeps 1 ; offers 1 ; 0 " + token);
        }
        check.end();
    }

    private static void behind(String text, int more) {
        fault(text);
        if (more == 0) return;
        for (String token : TOKENS) behind(text + " " + token, more - 1);
    }

    private static void fault(String text) {
        int place = Model.fault(text);
        if (place < 0) return;
        check.due(text, Check.read(new FlatToLet(), text), -100 - place);
    }
}
