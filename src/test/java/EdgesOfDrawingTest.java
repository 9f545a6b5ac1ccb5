import java.math.BigInteger;

/** Promises 20, 21 and 22, a sentence at a time: drawing, and what is due and owed for it. */
public final class EdgesOfDrawingTest {
    private static final int MIN = Integer.MIN_VALUE;
    private static final int MAX = Integer.MAX_VALUE;
    private static final BigInteger FACTOR = new BigInteger("6364136223846793005");
    private static final BigInteger STEP = new BigInteger("1442695040888963407");
    private static final BigInteger ROUND = BigInteger.ONE.shiftLeft(64);

    public static void main(String[] args) {
        drawNoSuchLot();
        drawSent();
        drawOnce();
        drawRefusedIsNotDrawn();
        drawLeastAndMost();
        drawAtMostAsBought();
        drawAsBoughtNotAsLeft();
        badByGrade();
        badNumbersGoByPlaces();
        goesRound();
        drawTakesNothing();
        dueOfOthers();
        duePriceAndAmounts();
        dueBelowNought();
        dueClausesToTheNumber();
        dueOfBadCasks();
        dueThen();
        dueMost();
        owedOfOthers();
        owedForAllDrawn();
        owedMost();
        Check.end();
    }

    private static void drawNoSuchLot() {
        Check.sentence("20: NONE: no such LOT");
        FleetStores x = new FleetStores();
        Check.due("none at all", x.draw(0, 0, 0), -1);
        x.buy(0, 0, 0, 5, 7, 0);
        for (int lot : new int[] {MIN, -1, 1, 299, 300, MAX}) {
            Check.due("lot " + lot, x.draw(lot, 0, 0), -1);
        }
        Check.due("lot 0", x.draw(0, 5, 0), 5);
    }

    private static void drawSent() {
        Check.sentence("20: NONE: it was sent (is not one bought)");
        FleetStores x = new FleetStores();
        x.way(0, 1, 0);
        x.buy(0, 0, 0, 5, 7, 9);
        x.send(0, 1, 2);
        Check.due("on its way", x.draw(1, 1, 0), -1);
        x.week();
        Check.due("there", x.draw(1, 0, 0), -1);
        Check.due("due for it", x.due(1), 0);
        Check.due("what was bought", x.draw(0, 1, 0), 1);
        Check.due("sent of what is drawn", x.draw(1, 1, 0), -1);
    }

    private static void drawOnce() {
        Check.sentence("20: NONE: was drawn");
        FleetStores x = new FleetStores();
        x.buy(0, 0, 0, 5, 7, 9);
        x.buy(0, 0, 0, 5, 7, 9);
        Check.due("none of them, but drawn", x.draw(0, 0, 0), 0);
        Check.due("again", x.draw(0, 5, 0), -1);
        x.week();
        Check.due("again a week later", x.draw(0, 5, 0), -1);
        Check.due("due as it was", x.due(0), 9);
        Check.due("another one", x.draw(1, 5, 0), 5);
    }

    private static void drawRefusedIsNotDrawn() {
        Check.sentence("20: NONE: k (and it can still be drawn)");
        FleetStores x = new FleetStores();
        x.buy(0, 0, 0, 5, 7, 9);
        Check.due("six of five", x.draw(0, 6, 0), -1);
        Check.due("due", x.due(0), 0);
        Check.due("owed", x.owed(0), 0);
        Check.due("five of five", x.draw(0, 5, 0), 5);
        Check.due("due then", x.due(0), 9);
    }

    private static void drawLeastAndMost() {
        Check.sentence("20: DRAWING k casks (0 .. 40)");
        FleetStores x = new FleetStores();
        for (int i = 0; i < 3; i++) {
            x.buy(0, 0, 0, 5000, 7, 0);
        }
        for (int k : new int[] {MIN, -1, 41, 5000, MAX}) {
            Check.due("k " + k, x.draw(0, k, 0), -1);
        }
        Check.due("k 0", x.draw(0, 0, 0), 0);
        Check.due("k 1", x.draw(1, 1, 0), 1);
        Check.due("k 40", x.draw(2, 40, 0), 40);
    }

    private static void drawAtMostAsBought() {
        Check.sentence("20: at most as many as were bought");
        for (int n : new int[] {1, 2, 39, 40, 41}) {
            FleetStores x = new FleetStores();
            x.buy(0, 0, 0, n, 7, 0);
            Check.due(Math.min(n, 40) + 1 + " of " + n, x.draw(0, Math.min(n, 40) + 1, 5), -1);
            Check.due(Math.min(n, 40) + " of " + n, x.draw(0, Math.min(n, 40), 5), Math.min(n, 40));
        }
    }

    private static void drawAsBoughtNotAsLeft() {
        Check.sentence("20: as many as were bought (not as are left)");
        FleetStores x = new FleetStores();
        x.buy(0, 0, 0, 20, 7, 0);
        x.buy(0, 0, 1, 20, 3, 0);
        x.send(0, 1, 20);
        Check.due("all were sent", x.draw(0, 20, 0), 20);
        x.spoils(1, 0, 1000);
        x.week();
        Check.due("all are spoilt", x.draw(1, 20, 0), 9);
    }

    private static void badByGrade() {
        Check.sentence("20: BAD if its number modulo 7 is below GRADE");
        for (int grade = 0; grade < 8; grade++) {
            FleetStores x = new FleetStores();
            for (int n = 1; n <= 40; n++) {
                int bad = 0;
                for (int number = 0; number < n; number++) {
                    bad += number % 7 < grade ? 1 : 0;
                }
                x.buy(0, 0, 0, n, grade, 0);
                Check.due("all " + n + ", grade " + grade, x.draw(n - 1, n, 31L * n), bad);
            }
        }
    }

    /** DRAWING with numbers that do not go round, and the rounding done by hand. */
    private static int badByWords(int n, int k, long seed, int grade) {
        BigInteger x = BigInteger.valueOf(seed).mod(ROUND);
        int[] line = new int[n];
        for (int i = 0; i < n; i++) {
            line[i] = i;
        }
        int bad = 0;
        for (int j = 0; j < k; j++) {
            x = x.multiply(FACTOR).add(STEP).mod(ROUND);
            int place = j + x.shiftRight(33).mod(BigInteger.valueOf(n - j)).intValueExact();
            int there = line[place];
            line[place] = line[j];
            line[j] = there;
            bad += there % 7 < grade ? 1 : 0;
        }
        return bad;
    }

    private static void badNumbersGoByPlaces() {
        Check.sentence("20: changes places with that in place j, for j from 0 to k - 1");
        for (int k : new int[] {1, 2, 3, 38, 39, 40}) {
            FleetStores x = new FleetStores();
            for (int i = 0; i < 60; i++) {
                int n = 40 + i % 12;
                int grade = 1 + i % 6;
                x.buy(0, 0, 0, n, grade, 0);
                Check.due(k + " of " + n, x.draw(i, k, i * 1000003L), badByWords(n, k, i * 1000003L, grade));
            }
        }
    }

    private static void goesRound() {
        Check.sentence("20: (64 bits, going round), shifted right by 33, without sign");
        long[] seeds = {0, 1, -1, Long.MIN_VALUE, Long.MAX_VALUE, Long.MIN_VALUE + 1, 1L << 33, 1L << 32, -(1L << 33),
            6364136223846793005L, -1442695040888963407L, 0x7FFFFFFFL, 0x80000000L, 0xFFFFFFFFL};
        FleetStores x = new FleetStores();
        int lot = 0;
        for (long seed : seeds) {
            for (int n : new int[] {1, 7, 64, 4999, 5000}) {
                int k = Math.min(n, 40);
                x.buy(0, 0, 0, n, 3, 0);
                Check.due(k + " of " + n + ", seed " + seed, x.draw(lot, k, seed), badByWords(n, k, seed, 3));
                lot++;
            }
        }
    }

    private static void drawTakesNothing() {
        Check.sentence("20: how many BAD ones were (and no cask goes)");
        FleetStores x = new FleetStores();
        x.buy(0, 0, 0, 40, 7, 9);
        x.draw(0, 40, 0);
        Check.due("stock", x.stock(0, 0), 40);
        Check.due("casks", x.lot(0, 3), 40);
        Check.due("condemned", x.count(4) + x.condemned(0), 0);
        Check.due("opened", x.count(5), 0);
    }

    private static void dueOfOthers() {
        Check.sentence("21: 0 for others");
        FleetStores x = new FleetStores();
        Check.due("of no lots at all", x.due(0), 0);
        x.buy(0, 0, 0, 5, 7, 9);
        x.buy(0, 0, 0, 5, 7, 8);
        x.send(0, 1, 1);
        Check.due("not drawn", x.due(0), 0);
        x.draw(0, 1, 0);
        Check.due("drawn", x.due(0), 9);
        for (int lot : new int[] {MIN, -1, 1, 2, 3, 299, 300, MAX}) {
            Check.due("due(" + lot + ")", x.due(lot), 0);
        }
    }

    private static int dueBy(String contract, int weeks, int n, int k, int price) {
        FleetStores x = new FleetStores();
        Check.contract(x, 4, contract);
        x.buy(0, 4, 0, n, 7, price);
        Check.weeks(x, weeks);
        x.draw(0, k, 1);
        return x.due(0);
    }

    private static void duePriceAndAmounts() {
        Check.sentence("21: the price, and the sum of the amounts of all CLAUSES that hold");
        Check.due("none", dueBy("", 0, 9, 3, 500), 500);
        Check.due("one that does not hold", dueBy("k=4:10", 0, 9, 3, 500), 500);
        Check.due("one of two", dueBy("k=4:10;k=3:20", 0, 9, 3, 500), 520);
        Check.due("the same twice", dueBy("k=3:20;k=3:20", 0, 9, 3, 500), 540);
        Check.due("up and down", dueBy("k=3:20;k<4:-5;k>2:00100", 0, 9, 3, 500), 615);
        Check.due("minus nought", dueBy("k=3:-0", 0, 9, 3, 500), 500);
    }

    private static void dueBelowNought() {
        Check.sentence("21: an amount (perhaps with a - ahead)");
        Check.due("to nought", dueBy("k=3:-500", 0, 9, 3, 500), 0);
        Check.due("below it", dueBy("k=3:-501", 0, 9, 3, 500), -1);
        Check.due("far below it", dueBy("k=3:-99999;k=3:-99999", 0, 9, 3, 0), -199998);
    }

    private static void isHeldBy(String letter, int fact, int weeks, int n, int k) {
        for (int number = Math.max(0, fact - 1); number <= fact + 1; number++) {
            Check.due(letter + "=" + number, dueBy(letter + "=" + number + ":1", weeks, n, k, 0), fact == number ? 1 : 0);
            Check.due(letter + "<" + number, dueBy(letter + "<" + number + ":1", weeks, n, k, 0), fact < number ? 1 : 0);
            Check.due(letter + ">" + number, dueBy(letter + ">" + number + ":1", weeks, n, k, 0), fact > number ? 1 : 0);
        }
        Check.due(letter + "<99999", dueBy(letter + "<99999:1", weeks, n, k, 0), 1);
        Check.due(letter + ">99999", dueBy(letter + ">99999:1", weeks, n, k, 0), 0);
    }

    private static void dueClausesToTheNumber() {
        Check.sentence("CONTRACTS: a letter b, k, n, g, one of = < >, a number");
        isHeldBy("b", 0, 3, 50, 0);
        isHeldBy("b", 40, 3, 50, 40);
        isHeldBy("k", 0, 3, 50, 0);
        isHeldBy("k", 40, 3, 50, 40);
        isHeldBy("n", 1, 3, 1, 0);
        isHeldBy("n", 5000, 3, 5000, 7);
        isHeldBy("g", 0, 0, 50, 7);
        isHeldBy("g", 200, 200, 50, 7);
    }

    private static void dueOfBadCasks() {
        Check.sentence("CONTRACTS: b (BAD casks drawn), k (casks drawn), n (casks bought)");
        FleetStores x = new FleetStores();
        Check.contract(x, 0, "b=3:1;k=14:10;n=15:100;b=2:1000;k=15:2000;n=14:4000");
        // Grade 1 makes 0, 7 and 14 bad, and one of the fifteen is not drawn.
        x.buy(0, 0, 0, 15, 1, 0);
        x.send(0, 1, 1);
        int bad = x.draw(0, 14, 5);
        Check.due("bad", bad, badByWords(15, 14, 5, 1));
        Check.due("due", x.due(0), 110 + (bad == 3 ? 1 : 1000));
    }

    private static void dueThen() {
        Check.sentence("DUE to the MAKER then (as it is drawn)");
        FleetStores x = new FleetStores();
        x.week();
        Check.contract(x, 0, "g=0:1;g=1:2");
        x.buy(0, 0, 0, 5, 0, 100);
        x.buy(0, 0, 0, 5, 0, 100);
        x.draw(0, 0, 0);
        x.week();
        x.draw(1, 0, 0);
        Check.due("drawn as it was bought", x.due(0), 101);
        Check.due("drawn a week later", x.due(1), 102);
        Check.contract(x, 0, "g<5:50");
        Check.due("a contract told later", x.due(0) + x.due(1), 203);
        Check.due("owed", x.owed(0), 203);
    }

    private static void dueMost() {
        Check.sentence("21: all CLAUSES (of a TAPE of 200 bytes)");
        String text = "k=0:99999;".repeat(19) + "k=0:99999 ";
        Check.due("20 of the largest", dueBy(text, 0, 1, 0, 100000), 100000 + 20 * 99999);
        Check.due("33 of the shortest", dueBy("k=0:9;".repeat(32) + "k=0:9", 0, 1, 0, 100000), 100000 + 33 * 9);
        Check.due("the last of 33 alone", dueBy("k=1:9;".repeat(32) + "k=0:7", 0, 1, 0, 0), 7);
    }

    private static void owedOfOthers() {
        Check.sentence("22: 0 for others");
        FleetStores x = new FleetStores();
        for (int maker = 0; maker < 10; maker++) {
            x.buy(0, maker, 0, 5, 7, 100);
        }
        Check.due("not drawn", x.owed(0), 0);
        x.draw(0, 0, 0);
        x.draw(9, 0, 0);
        for (int maker : new int[] {MIN, -1, 1, 8, 10, MAX}) {
            Check.due("owed(" + maker + ")", x.owed(maker), 0);
        }
        Check.due("owed(0)", x.owed(0), 100);
        Check.due("owed(9)", x.owed(9), 100);
    }

    private static void owedForAllDrawn() {
        Check.sentence("22: DUE to a MAKER for all LOTS that were drawn");
        FleetStores x = new FleetStores();
        Check.contract(x, 3, "b>0:-150");
        x.buy(0, 3, 0, 5, 7, 100);
        x.buy(1, 3, 1, 5, 0, 100);
        x.buy(2, 3, 2, 5, 0, 100);
        x.buy(2, 4, 2, 5, 0, 100);
        x.send(0, 1, 5);
        x.draw(0, 1, 0);
        Check.due("below 0", x.owed(3), -50);
        x.draw(1, 1, 0);
        Check.due("two of three", x.owed(3), 50);
        x.draw(3, 1, 0);
        Check.due("another maker's", x.owed(3), 50);
        x.draw(2, 1, 0);
        Check.due("all three", x.owed(3), 150);
    }

    private static void owedMost() {
        Check.sentence("22: for all LOTS (as many as 512 calls can draw)");
        FleetStores x = new FleetStores();
        Check.contract(x, 0, "k=0:99999;".repeat(19) + "k=0:99999 ");
        for (int i = 0; i < 249; i++) {
            x.buy(0, 0, 0, 5000, 0, 100000);
            x.draw(i, 0, i);
        }
        Check.due("owed", x.owed(0), 249L * (100000 + 20 * 99999));
    }
}
