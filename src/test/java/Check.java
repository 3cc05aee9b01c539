/** What the tests share: comparing answers, awaiting exceptions, typing texts, and ending with an exit code. */
final class Check {
    private static final int MOST_SHOWN = 40;
    private static int wrong = 0;

    interface Call {
        Object answer();
    }

    private Check() {
    }

    static void due(String call, Object want, Call call1) {
        String got = outcome(call1);
        if (!got.equals(String.valueOf(want))) {
            report(call + " answered " + got + ", due is " + want);
        }
    }

    static void fails(String call, Class<? extends RuntimeException> want, Call call1) {
        due(call, "throws." + want.getSimpleName(), call1);
    }

    /** The answer as a text, or the exception's name behind "throws."; an Error is let through. */
    static String outcome(Call call) {
        try {
            return String.valueOf(call.answer());
        } catch (RuntimeException e) {
            return "throws." + e.getClass().getSimpleName();
        }
    }

    static void report(String text) {
        wrong++;
        if (wrong <= MOST_SHOWN) {
            System.out.println(text);
        }
    }

    static void type(StoneQuarry x, String text) {
        for (char c : text.toCharArray()) {
            x.type(c);
        }
    }

    static Object execute(StoneQuarry x, String text) {
        type(x, text);
        return x.execute();
    }

    static String lineOf(StoneQuarry x, int length) {
        StringBuilder line = new StringBuilder();
        for (int i = 0; i < length; i++) {
            line.append(x.lineAt(i));
        }
        return line.toString();
    }

    /** Sets the wall: a digit is a hardness, "." a cell that is opened; costs at most three calls a cell. */
    static StoneQuarry wall(String... rows) {
        StoneQuarry x = new StoneQuarry();
        for (int r = 0; r < 6; r++) {
            for (int c = 0; c < 6; c++) {
                if (rows[r].charAt(c) == '.') {
                    x.setHardness(r, c, 1);
                    x.addCharge(r, c, 1);
                    x.ignite(0);
                }
            }
        }
        for (int r = 0; r < 6; r++) {
            for (int c = 0; c < 6; c++) {
                char sign = rows[r].charAt(c);
                if (sign != '.') {
                    x.setHardness(r, c, sign - '0');
                }
            }
        }
        return x;
    }

    /** A quarry with 45 tonnes of stone in stock, 15 open cells in the north-west, and 90 coins. */
    static StoneQuarry rich() {
        StoneQuarry x = new StoneQuarry();
        x.setPrice(10, 30);
        x.addCharge(0, 0, 9);
        x.ignite(0);
        x.sell(30);
        return x;
    }

    static void end() {
        if (wrong > 0) {
            System.out.println(wrong + " answers are wrong");
            System.exit(1);
        }
    }
}
