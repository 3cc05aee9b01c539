/** The edges that "What it is" and "Terms" name: each test names the sentence that it tests. */
final class TermsEdgesTest {
    public static void main(String[] args) {
        run();
        Sentence.allTermsNamed("The class finds chains of charges, the cheapest tunnel, the most slabs, the largest block and the best cuts in two ways each, keeps accounts, executes command texts, and supports undo and snapshots.");
        Check.end();
    }

    static void run() {
        Sentence.test(Sentence.WHAT_IT_IS, "An object is used for at most 512 calls after it has been made; what later calls answer is free.",
            TermsEdgesTest::lastOf512Calls);
        QuarryTerms.run();
        CommandTerms.run();
    }

    private static void lastOf512Calls() {
        StoneQuarry x = new StoneQuarry();
        for (int call = 1; call <= 511; call++) {
            x.setPrice(1, call % 100);
        }
        Check.due("the 512th call", 7, x::undo);
        StoneQuarry y = new StoneQuarry();
        for (int call = 1; call <= 510; call++) {
            y.setPrice(1, call % 100);
        }
        y.undo();
        Check.due("the 512th call", 9, () -> y.priceOf(1));
        StoneQuarry z = new StoneQuarry();
        for (int call = 1; call <= 511; call++) {
            z.isConsistent();
        }
        Check.due("the 512th call", true, z::isConsistent);
        StoneQuarry typed = new StoneQuarry();
        for (int call = 1; call <= 502; call++) {
            typed.setPrice(1, call % 100);
        }
        Check.due("type and execute up to the 512th call", 1, () -> Check.execute(typed, "price 1 5"));
    }
}
