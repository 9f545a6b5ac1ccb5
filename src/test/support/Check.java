/** Counts the answers that are not as due, prints them, and ends a test's main method. */
final class Check {
    private static int wrong = 0;
    private static int asked = 0;

    private Check() {
    }

    static void due(String call, long got, long want) {
        asked++;
        if (got != want) {
            wrong++;
            System.out.println(call + " answered " + got + ", due is " + want);
        }
    }

    static void yes(String call, boolean got) {
        due(call, got ? 1 : 0, 1);
    }

    static void no(String call, boolean got) {
        due(call, got ? 1 : 0, 0);
    }

    static int wrong() {
        return wrong;
    }

    static void end() {
        System.out.println(asked + " answers, " + wrong + " of them not as due");
        if (wrong != 0 || asked == 0) {
            System.exit(1);
        }
    }

    static void weeks(FleetStores x, int many) {
        for (int i = 0; i < many; i++) {
            x.week();
        }
    }

    /** Feeds a text of at most 200 characters 1 .. 255, twenty a call; the last answer. */
    static int feed(FleetStores x, String text) {
        int answer = x.count(7);
        for (int i = 0; i < text.length(); i += 20) {
            int[] n = new int[5];
            for (int j = 0; j < 20 && i + j < text.length(); j++) {
                n[j / 4] |= text.charAt(i + j) << 8 * (3 - j % 4);
            }
            answer = x.feed(n[0], n[1], n[2], n[3], n[4]);
        }
        return answer;
    }

    static boolean contract(FleetStores x, int maker, String text) {
        x.end(0);
        feed(x, text);
        return x.contract(maker);
    }
}
