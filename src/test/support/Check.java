/** Counts the answers that are not as due, prints them, and ends a test's main method. */
final class Check {
    private static int wrong = 0;
    private static int asked = 0;
    private static int sentences = 0;
    private static String about = "";

    private Check() {
    }

    /** The words of the document that the answers from here on are about. */
    static void sentence(String words) {
        about = "[" + words + "] ";
        sentences++;
    }

    static void due(String call, long got, long want) {
        asked++;
        if (got != want) {
            wrong++;
            System.out.println(about + call + " answered " + got + ", due is " + want);
        }
    }

    static void yes(String call, boolean got) {
        due(call, got ? 1 : 0, 1);
    }

    static void no(String call, boolean got) {
        due(call, got ? 1 : 0, 0);
    }

    static int wrong() {
        return wrong;
    }

    static void end() {
        String of = sentences == 0 ? "" : " for " + sentences + " sentences";
        System.out.println(asked + " answers" + of + ", " + wrong + " of them not as due");
        if (wrong != 0 || asked == 0) {
            System.exit(1);
        }
    }

    static void weeks(FleetStores x, int many) {
        for (int i = 0; i < many; i++) {
            x.week();
        }
    }

    static void buyAllKinds(FleetStores x, int place, int casks) {
        for (int k = 0; k < 4; k++) {
            x.buy(place, 0, k, casks, 0, 0);
        }
    }

    /** Feeds a text of at most 200 characters 1 .. 255, twenty a call; the last answer. */
    static int feed(FleetStores x, String text) {
        int answer = 0;
        for (int i = 0; i == 0 || i < text.length(); i += 20) {
            int[] n = new int[5];
            for (int j = 0; j < 20 && i + j < text.length(); j++) {
                n[j / 4] |= text.charAt(i + j) << 8 * (3 - j % 4);
            }
            answer = x.feed(n[0], n[1], n[2], n[3], n[4]);
        }
        return answer;
    }

    static boolean contract(FleetStores x, int maker, String text) {
        x.end(0);
        feed(x, text);
        return x.contract(maker);
    }
}
