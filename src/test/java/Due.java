/** Counts the answers that are not as due, and tells them; a test that does not end is stopped, and fails. */
final class Due {
    static final int NONE = WheatSea.NONE;
    static final int UNKNOWN = WheatSea.UNKNOWN;
    static final int OUTSIDE = WheatSea.OUTSIDE;
    static final int STATE = WheatSea.STATE;
    static final int FULL = WheatSea.FULL;

    /** Numbers that name nothing and lie outside of every bound. */
    static final int[] WILD = {-1, -2, Integer.MIN_VALUE, Integer.MAX_VALUE, 1 << 16, -(1 << 16)};

    /** Far above what any test needs: the document wants every call to end. */
    private static final int MOST_SECONDS = 300;

    private final String test;
    private int right;
    private int wrong;

    Due(String test) {
        this.test = test;
        Thread watch = new Thread(this::stopWhenLate);
        watch.setDaemon(true);
        watch.start();
    }

    private void stopWhenLate() {
        try {
            Thread.sleep(MOST_SECONDS * 1000L);
        } catch (InterruptedException none) {
            return;
        }
        System.out.println(test + ": still at work behind " + MOST_SECONDS + " seconds, as if a call did not end");
        Runtime.getRuntime().halt(1);
    }

    void same(String call, long got, long want) {
        if (got == want) {
            right++;
            return;
        }
        wrong++;
        if (wrong <= 40) {
            System.out.println(test + ": " + call + " answered " + got + ", due is " + want);
        }
    }

    boolean isWrong() {
        return wrong > 0;
    }

    void end() {
        System.out.println(test + ": " + right + " answers as due, " + wrong + " not");
        if (wrong > 0 || right == 0) {
            System.exit(1);
        }
    }

    static void type(WheatSea x, String text) {
        for (int i = 0; i < text.length(); i++) {
            x.letter(text.charAt(i));
        }
    }

    /** A new object with this plain read. */
    static WheatSea read(String plain) {
        WheatSea x = new WheatSea();
        type(x, plain);
        x.plain();
        return x;
    }
}
