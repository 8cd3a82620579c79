/** What the tests by hand share: to set an answer against what is due, to feed texts, and a small ground. */
abstract class Check {
    private static int wrong = 0;
    private static int checks = 0;
    private static String about = "";

    /** What a call is, so that it can be tried on several objects. */
    interface Call {
        int on(CrowdOut x);
    }

    /** What the next answers are about: a promise, or a sentence of the document. */
    static void about(String what) {
        about = what;
    }

    static void due(int got, int want) {
        due("line " + Thread.currentThread().getStackTrace()[2].getLineNumber(), got, want);
    }

    static void due(String told, int got, int want) {
        checks++;
        if (got != want) {
            wrong++;
            System.out.println(about + ": " + told + ": answered " + got + ", due is " + want);
        }
    }

    static void end() {
        System.out.println(checks + " answers, " + wrong + " wrong");
        if (wrong != 0) System.exit(1);
    }

    static void tape(CrowdOut x, String text) {
        for (int i = 0; i < text.length(); i += 8) {
            int n = Math.min(8, text.length() - i);
            long bytes = 0;
            for (int k = 0; k < n; k++) bytes |= (long) text.charAt(i + k) << 8 * k;
            x.feed(n, bytes);
        }
    }

    static int order(CrowdOut x, String text) {
        tape(x, text);
        return x.order(1);
    }

    /** 0 PEN of 100, 1 STAIR of 50, 2 GOAL; LINK 0 from 0 to 1, LINK 1 from 1 to 2. */
    static CrowdOut line(int wide0, int far0, int wide1, int far1) {
        CrowdOut x = new CrowdOut();
        x.area(0, 100);
        x.area(1, 50);
        x.area(3, 10);
        x.link(0, 1, wide0, far0);
        x.link(1, 2, wide1, far1);
        return x;
    }
}
