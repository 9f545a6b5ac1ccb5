/** Promises 20, 21 and 22: drawing, and what is due and owed for it. */
public final class DrawingTest {
    public static void main(String[] args) {
        bounds();
        drawsAsALineWould();
        clauses();
        dueAsItIsDrawn();
        madeLater();
        owed();
        Check.end();
    }

    private static void bounds() {
        FleetStores x = new FleetStores();
        x.buy(0, 0, 0, 50, 7, 10);
        x.buy(0, 0, 0, 5, 7, 10);
        x.send(0, 1, 20);
        Check.due("lot -1", x.draw(-1, 0, 0), -1);
        Check.due("lot 3", x.draw(3, 0, 0), -1);
        Check.due("one sent", x.draw(2, 0, 0), -1);
        Check.due("k -1", x.draw(0, -1, 0), -1);
        Check.due("k 41", x.draw(0, 41, 0), -1);
        Check.due("k 6 of 5", x.draw(1, 6, 0), -1);
        Check.due("not drawn yet", x.due(0), 0);
        Check.due("k 40 of 50 bought, 30 left", x.draw(0, 40, 0), 40);
        Check.due("drawn once", x.draw(0, 0, 0), -1);
        Check.due("all 5 of 5", x.draw(1, 5, -1L), 5);
        Check.due("due", x.due(0), 10);
        Check.due("due for one sent", x.due(2), 0);
        Check.due("due for no lot", x.due(3) + x.due(-1), 0);
        x.buy(0, 0, 0, 30, 7, 10);
        x.send(3, 1, 30);
        Check.due("all of it sent", x.draw(3, 30, 7), 30);
    }

    private static int badOfWholeLine(int n, int k, long seed, int grade) {
        int[] line = new int[n];
        for (int i = 0; i < n; i++) {
            line[i] = i;
        }
        long x = seed;
        int bad = 0;
        for (int j = 0; j < k; j++) {
            x = x * 6364136223846793005L + 1442695040888963407L;
            int place = (int) (j + (x >>> 33) % (n - j));
            int other = line[place];
            line[place] = line[j];
            line[j] = other;
            bad += line[j] % 7 < grade ? 1 : 0;
        }
        return bad;
    }

    private static void drawsAsALineWould() {
        java.util.Random random = new java.util.Random(9);
        for (int run = 0; run < 20; run++) {
            FleetStores x = new FleetStores();
            for (int lot = 0; lot < 200; lot++) {
                int n = 1 + random.nextInt(run % 2 == 0 ? 60 : 5000);
                int k = Math.min(n, random.nextInt(41));
                int grade = random.nextInt(8);
                long seed = random.nextInt(9) == 0 ? random.nextInt(3) - 1 : random.nextLong();
                x.buy(0, 0, 0, n, grade, 0);
                Check.due("draw " + k + " of " + n + ", grade " + grade + ", seed " + seed,
                        x.draw(lot, k, seed), badOfWholeLine(n, k, seed, grade));
            }
        }
    }

    private static void clauseAdds(String clause, int weeks, int k, int n, int want) {
        FleetStores x = new FleetStores();
        Check.contract(x, 4, clause);
        x.buy(0, 4, 0, n, 7, 1000);
        Check.weeks(x, weeks);
        Check.due("all are bad", x.draw(0, k, 3), k);
        Check.due("due by " + clause, x.due(0), 1000 + want);
    }

    private static void clauses() {
        clauseAdds("b=3:11", 0, 3, 9, 11);
        clauseAdds("b=4:11", 0, 3, 9, 0);
        clauseAdds("b>2:11", 0, 3, 9, 11);
        clauseAdds("b>3:11", 0, 3, 9, 0);
        clauseAdds("b<4:11", 0, 3, 9, 11);
        clauseAdds("b<3:11", 0, 3, 9, 0);
        clauseAdds("k=5:-2000", 0, 5, 9, -2000);
        clauseAdds("k>5:-2000", 0, 5, 9, 0);
        clauseAdds("n=9:1", 2, 5, 9, 1);
        clauseAdds("n<9:1", 2, 5, 9, 0);
        clauseAdds("n>8:1", 2, 5, 9, 1);
        clauseAdds("g=6:1", 6, 5, 9, 1);
        clauseAdds("g=0:1", 6, 5, 9, 0);
        clauseAdds("g<7:1;g>5:2;g>6:4;g<6:8", 6, 5, 9, 3);
        clauseAdds("n > 00008 : 00100 ; n > 8 : 00100", 0, 0, 9, 200);
        clauseAdds("b<1:99999;b=0:-99999;b>0:1", 0, 0, 9, 0);
    }

    private static void dueAsItIsDrawn() {
        FleetStores x = new FleetStores();
        Check.contract(x, 0, "g=2:5;n=8:100");
        x.buy(0, 0, 0, 8, 0, 7);
        Check.weeks(x, 2);
        x.send(0, 1, 3);
        x.draw(0, 1, 1);
        Check.due("of the week of drawing, of all casks bought", x.due(0), 112);
        x.week();
        Check.due("a week later", x.due(0), 112);
        Check.contract(x, 0, "k=1:9");
        Check.due("another contract later", x.due(0), 112);
        Check.due("owed likewise", x.owed(0), 112);
    }

    private static void madeLater() {
        FleetStores x = new FleetStores();
        Check.contract(x, 0, "g=3:5");
        Check.weeks(x, 4);
        x.buy(0, 0, 0, 8, 0, 7);
        Check.weeks(x, 3);
        x.draw(0, 1, 1);
        Check.due("weeks since it was made", x.due(0), 12);
    }

    private static void owed() {
        FleetStores x = new FleetStores();
        Check.contract(x, 5, "k=1:-50");
        for (int i = 0; i < 6; i++) {
            x.buy(0, 4 + i % 3, 0, 3, 0, 10 * i);
        }
        for (int i = 0; i < 5; i++) {
            x.draw(i, 1, i);
        }
        Check.due("owed(4)", x.owed(4), 0 + 30);
        Check.due("owed(5): below 0", x.owed(5), 10 - 50 + 40 - 50);
        Check.due("owed(6): one is not drawn", x.owed(6), 20);
        Check.due("owed(7)", x.owed(7), 0);
        Check.due("owed(10)", x.owed(10), 0);
        Check.due("owed(-1)", x.owed(-1), 0);
    }
}
