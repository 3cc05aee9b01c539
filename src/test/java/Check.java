/** What the tests share: comparing answers, awaiting exceptions, typing texts, and ending with an exit code. */
final class Check {
    private static final int MOST_SHOWN = 40;
    private static final int MOST_SHOWN_OF_ONE = 3;
    private static int wrong = 0;
    private static int wrongOfOne = 0;
    private static String subject = "";

    interface Call {
        Object answer();
    }

    private Check() {
    }

    static void due(String call, Object want, Call call1) {
        String got = outcome(call1);
        if (!got.equals(String.valueOf(want))) {
            report(call + " answered " + got + ", due is " + want);
        }
    }

    static void fails(String call, Class<? extends RuntimeException> want, Call call1) {
        due(call, "throws." + want.getSimpleName(), call1);
    }

    /** The answer as a text, or the exception's name behind "throws."; an Error is let through. */
    static String outcome(Call call) {
        try {
            return String.valueOf(call.answer());
        } catch (RuntimeException e) {
            return "throws." + e.getClass().getSimpleName();
        }
    }

    /** Puts these words ahead of the reports that follow, each subject's first ones being shown in any case. */
    static void about(String words) {
        subject = words;
        wrongOfOne = 0;
    }

    static void report(String text) {
        wrong++;
        wrongOfOne++;
        if (wrong <= MOST_SHOWN || !subject.isEmpty() && wrongOfOne <= MOST_SHOWN_OF_ONE) {
            System.out.println(subject + text);
        }
    }

    static void type(StoneQuarry x, String text) {
        for (char c : text.toCharArray()) {
            x.type(c);
        }
    }

    static Object execute(StoneQuarry x, String text) {
        type(x, text);
        return x.execute();
    }

    static String lineOf(StoneQuarry x, int length) {
        StringBuilder line = new StringBuilder();
        for (int i = 0; i < length; i++) {
            line.append(x.lineAt(i));
        }
        return line.toString();
    }

    /** The wall as the cells answer it, row by row: a hardness, or "." for an open cell. */
    static String wallOf(StoneQuarry x) {
        StringBuilder all = new StringBuilder();
        for (int row = 0; row < 6; row++) {
            for (int column = 0; column < 6; column++) {
                all.append(x.isOpen(row, column) ? "." : x.hardnessOf(row, column));
            }
            all.append(row < 5 ? " " : "");
        }
        return all.toString();
    }

    /** The charges in order, each as its row, its column and its strength. */
    static String chargesOf(StoneQuarry x) {
        StringBuilder all = new StringBuilder();
        int count = x.chargeCount();
        for (int charge = 0; charge < count; charge++) {
            all.append(x.chargeRow(charge)).append(x.chargeColumn(charge)).append(x.chargeStrength(charge)).append(' ');
        }
        return all.toString();
    }

    /** Stone in stock, quarried stone, sold stone, coins. */
    static String accountsOf(StoneQuarry x) {
        return x.stone() + " " + x.quarried() + " " + x.sold() + " " + x.coins();
    }

    /** All that undo and restore bring back; costs up to 112 calls. */
    static String stateOf(StoneQuarry x) {
        StringBuilder all = new StringBuilder(wallOf(x)).append(';').append(chargesOf(x)).append(';');
        for (int length = 1; length <= 10; length++) {
            all.append(x.priceOf(length)).append(' ');
        }
        return all.append(';').append(accountsOf(x)).toString();
    }

    /** Sets the wall: a digit is a hardness, "." a cell that is opened; costs at most three calls a cell. */
    static StoneQuarry wall(String... rows) {
        StoneQuarry x = new StoneQuarry();
        for (int r = 0; r < 6; r++) {
            for (int c = 0; c < 6; c++) {
                if (rows[r].charAt(c) == '.') {
                    x.setHardness(r, c, 1);
                    x.addCharge(r, c, 1);
                    x.ignite(0);
                }
            }
        }
        for (int r = 0; r < 6; r++) {
            for (int c = 0; c < 6; c++) {
                char sign = rows[r].charAt(c);
                if (sign != '.') {
                    x.setHardness(r, c, sign - '0');
                }
            }
        }
        return x;
    }

    /** A quarry with 45 tonnes of stone in stock, 15 open cells in the north-west, and 90 coins. */
    static StoneQuarry rich() {
        StoneQuarry x = new StoneQuarry();
        x.setPrice(10, 30);
        x.addCharge(0, 0, 9);
        x.ignite(0);
        x.sell(30);
        return x;
    }

    static void end() {
        if (wrong > 0) {
            System.out.println(wrong + " answers are wrong");
            System.exit(1);
        }
    }
}
