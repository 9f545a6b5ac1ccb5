/** Promises 24, 25 and 27, a sentence at a time: surveys, balances, and what is counted. */
public final class EdgesOfBooksTest {
    private static final int MIN = Integer.MIN_VALUE;
    private static final int MAX = Integer.MAX_VALUE;
    private static final int WRONG = -1000000;

    public static void main(String[] args) {
        surveyNoSuch();
        surveyWeeks();
        surveyFound();
        surveyFull();
        surveyDifference();
        surveyBelowAMillion();
        balanceNoSuch();
        balanceOfNone();
        balanceToldLast();
        balanceOfEachWeek();
        balanceOfItsOwn();
        balanceAnEighth();
        balanceAtMostNought();
        balanceAboveNought();
        balanceOpenedThere();
        balanceOfMany();
        booksAreTheStock();
        countsOfAll();
        countsGoOn();
        countNoneForOthers();
        Check.end();
    }

    private static void surveyNoSuch() {
        Check.sentence("24: -1,000,000: out of bounds (PLACE, KIND)");
        FleetStores x = new FleetStores();
        for (int p : new int[] {MIN, -1, 8, MAX}) {
            Check.due("place " + p, x.survey(p, 0, 0, 1), WRONG);
        }
        for (int k : new int[] {MIN, -1, 4, MAX}) {
            Check.due("kind " + k, x.survey(1, k, 0, 1), WRONG);
        }
        Check.due("none was told", x.count(6), 0);
        Check.due("the first of each", x.survey(0, 0, 0, 1), 1);
        Check.due("the last of each", x.survey(7, 3, 0, 1), 1);
    }

    private static void surveyWeeks() {
        Check.sentence("24: as a WEEK (0 .. NOW) began");
        FleetStores x = new FleetStores();
        Check.due("week 1 in week 0", x.survey(0, 0, 1, 1), WRONG);
        Check.due("week 0 in week 0", x.survey(0, 0, 0, 1), 1);
        Check.weeks(x, 3);
        for (int week : new int[] {MIN, -1, 4, 200, 201, MAX}) {
            Check.due("week " + week, x.survey(0, 0, week, 1), WRONG);
        }
        for (int week = 0; week <= 3; week++) {
            Check.due("week " + week, x.survey(0, 0, week, week), week);
        }
        Check.due("told", x.count(6), 5);
        Check.weeks(x, 197);
        Check.due("week 200", x.survey(0, 0, 200, 1), 1);
        Check.due("week 201", x.survey(0, 0, 201, 1), WRONG);
    }

    private static void surveyFound() {
        Check.sentence("24: casks found (0 .. 100,000)");
        FleetStores x = new FleetStores();
        for (int found : new int[] {MIN, -1, 100001, MAX}) {
            Check.due("found " + found, x.survey(0, 0, 0, found), WRONG);
        }
        Check.due("none was told", x.count(6), 0);
        Check.due("balance", x.balance(0, 0), 0);
        Check.due("found 0", x.survey(0, 0, 0, 0), 0);
        Check.due("found 100,000", x.survey(0, 0, 0, 100000), 100000);
    }

    private static void surveyFull() {
        Check.sentence("24: -1,000,000: 200 were told");
        FleetStores x = new FleetStores();
        for (int i = 0; i < 199; i++) {
            x.survey(0, 0, 0, i);
        }
        Check.due("out of bounds is not told", x.survey(0, 4, 0, 1), WRONG);
        Check.due("the 200th", x.survey(0, 0, 0, 7), 7);
        Check.due("for the same week", x.survey(0, 0, 0, 8), WRONG);
        Check.due("elsewhere", x.survey(1, 1, 0, 8), WRONG);
        x.week();
        Check.due("for another week", x.survey(0, 0, 1, 8), WRONG);
        Check.due("told", x.count(6), 200);
        Check.due("balance", x.balance(0, 0), 7);
        Check.due("balance elsewhere", x.balance(1, 1), 0);
    }

    private static void surveyDifference() {
        Check.sentence("24: its DIFFERENCE is that less STOCK as that WEEK began");
        FleetStores x = new FleetStores();
        x.buy(2, 0, 1, 10, 0, 0);
        Check.due("a purchase of week 0 is not in it", x.survey(2, 1, 0, 10), 10);
        x.week();
        x.buy(2, 0, 1, 5, 0, 0);
        Check.due("none found", x.survey(2, 1, 1, 0), -10);
        Check.due("one less", x.survey(2, 1, 1, 9), -1);
        Check.due("as many", x.survey(2, 1, 1, 10), 0);
        Check.due("one more", x.survey(2, 1, 1, 11), 1);
        x.week();
        Check.due("told later", x.survey(2, 1, 1, 10), 0);
        Check.due("of the next week", x.survey(2, 1, 2, 10), -5);
        Check.due("the stock is as it was", x.stock(2, 1), 15);
    }

    private static void surveyBelowAMillion() {
        Check.sentence("24: its DIFFERENCE (below -1,000,000, and told)");
        FleetStores x = new FleetStores();
        for (int i = 0; i < 201; i++) {
            x.buy(2, 0, 1, 5000, 0, 0);
        }
        x.week();
        Check.due("1,005,000 are there", x.began(2, 1, 1), 1005000);
        Check.due("none found", x.survey(2, 1, 1, 0), -1005000);
        Check.due("told", x.count(6), 1);
        Check.due("balance", x.balance(2, 1), -1005000);
    }

    private static void balanceNoSuch() {
        Check.sentence("25: -1,000,000: no such PLACE, KIND");
        FleetStores x = new FleetStores();
        for (int p : new int[] {MIN, -1, 8, MAX}) {
            Check.due("place " + p, x.balance(p, 0), WRONG);
        }
        for (int k : new int[] {MIN, -1, 4, MAX}) {
            Check.due("kind " + k, x.balance(1, k), WRONG);
        }
        Check.due("the last of each", x.balance(7, 3), 0);
    }

    private static void balanceOfNone() {
        Check.sentence("25: the sum of the DIFFERENCES (of none)");
        FleetStores x = new FleetStores();
        x.men(0, 100);
        Check.buyAllKinds(x, 0, 500);
        Check.weeks(x, 4);
        Check.due("56 opened, nothing to forgive", x.balance(0, 0), 0);
    }

    private static void balanceToldLast() {
        Check.sentence("25: of the SURVEY told last for each WEEK");
        FleetStores x = new FleetStores();
        x.week();
        x.survey(2, 1, 0, 5);
        x.survey(2, 1, 1, 70);
        x.survey(2, 1, 0, 6);
        Check.due("6 and 70", x.balance(2, 1), 76);
        x.survey(2, 1, 0, 0);
        Check.due("0 and 70", x.balance(2, 1), 70);
        x.survey(2, 1, 1, 3);
        Check.due("0 and 3", x.balance(2, 1), 3);
        x.survey(2, 1, 0, -1);
        Check.due("one refused is not the last", x.balance(2, 1), 3);
    }

    private static void balanceOfEachWeek() {
        Check.sentence("25: for each WEEK (0 .. 200)");
        FleetStores x = new FleetStores();
        int sum = 0;
        for (int week = 0; week < 200; week++) {
            x.survey(2, 1, week, week);
            sum += week;
            x.week();
        }
        Check.due("all of them", x.balance(2, 1), sum);
    }

    private static void balanceOfItsOwn() {
        Check.sentence("25: of a PLACE and KIND");
        FleetStores x = new FleetStores();
        for (int i = 0; i < 32; i++) {
            x.survey(i / 4, i % 4, 0, 100 + i);
        }
        for (int i = 0; i < 32; i++) {
            Check.due("place " + i / 4 + ", kind " + i % 4, x.balance(i / 4, i % 4), 100 + i);
        }
    }

    /** Casks of 7 rations: 'opened' of them were opened, and so many more or fewer were found. */
    private static int balanceOf(int opened, int difference) {
        FleetStores x = new FleetStores();
        x.rations(0, 7);
        x.men(0, opened);
        x.buy(0, 0, 0, 1000, 0, 0);
        x.week();
        x.survey(0, 0, 1, 1000 - opened + difference);
        return x.balance(0, 0);
    }

    private static void balanceAnEighth() {
        Check.sentence("25: below 0, it is more by an eighth of all casks that were opened there (cut)");
        Check.due("none opened", balanceOf(0, -50), -50);
        Check.due("7 opened", balanceOf(7, -50), -50);
        Check.due("8 opened", balanceOf(8, -50), -49);
        Check.due("15 opened", balanceOf(15, -50), -49);
        Check.due("16 opened", balanceOf(16, -50), -48);
        Check.due("399 opened", balanceOf(399, -50), -1);
    }

    private static void balanceAtMostNought() {
        Check.sentence("25: but at most 0");
        Check.due("399 opened", balanceOf(399, -49), 0);
        Check.due("400 opened", balanceOf(400, -50), 0);
        Check.due("408 opened", balanceOf(408, -50), 0);
        Check.due("one below, 8 opened", balanceOf(8, -1), 0);
        Check.due("one below, 7 opened", balanceOf(7, -1), -1);
        Check.due("one below, 800 opened", balanceOf(800, -1), 0);
    }

    private static void balanceAboveNought() {
        Check.sentence("25: if that is below 0 (else it stays)");
        Check.due("0, 800 opened", balanceOf(800, 0), 0);
        Check.due("1, 800 opened", balanceOf(800, 1), 1);
        Check.due("50, 800 opened", balanceOf(800, 50), 50);
    }

    private static void balanceOpenedThere() {
        Check.sentence("25: all casks that were opened there (till now, of that KIND)");
        FleetStores x = new FleetStores();
        for (int k = 0; k < 4; k++) {
            x.rations(k, 7);
        }
        x.men(0, 8);
        x.buy(0, 0, 0, 100, 0, 0);
        x.buy(1, 0, 0, 100, 0, 0);
        x.buy(0, 0, 1, 100, 0, 0);
        x.week();
        x.survey(0, 0, 1, 0);
        x.survey(1, 0, 1, 0);
        x.survey(0, 1, 1, 0);
        Check.due("8 opened there", x.balance(0, 0), -91);
        Check.due("none at another place", x.balance(1, 0), -100);
        Check.due("8 of another kind", x.balance(0, 1), -91);
        x.week();
        Check.due("16 opened, though behind the survey", x.balance(0, 0), -90);
    }

    private static void balanceOfMany() {
        Check.sentence("25: the sum (as large as calls can make it)");
        FleetStores x = new FleetStores();
        for (int i = 0; i < 200; i++) {
            x.survey(0, 0, i, 100000);
            x.week();
        }
        Check.due("20,000,000", x.balance(0, 0), 20000000);
    }

    private static void booksAreTheStock() {
        Check.sentence("BOOKS: came, less sent, opened, CONDEMNED there: that is its STOCK");
        FleetStores x = new FleetStores();
        x.way(0, 1, 1);
        x.spoils(0, 0, 100);
        x.men(1, 10);
        x.buy(0, 0, 0, 100, 0, 0);
        x.send(0, 1, 50);
        x.week();
        Check.due("100 less 50 sent and 5 condemned", x.stock(0, 0), 45);
        Check.due("none came yet", x.stock(1, 0), 0);
        x.week();
        // Ten of the fifty were lost at sea: in nobody's book.
        Check.due("40 came, 4 condemned, 2 opened", x.stock(1, 0), 34);
        Check.due("5 + 10 and 4 + 4", x.count(4), 23);
    }

    private static void countsOfAll() {
        Check.sentence("27: 0 NOW .. 7 bytes of the TAPE");
        FleetStores x = new FleetStores();
        x.men(1, 10);
        x.spoils(0, 0, 100);
        x.buy(0, 0, 0, 100, 0, 0);
        x.buy(1, 0, 0, 100, 0, 0);
        x.send(0, 2, 30);
        Check.feed(x, "bk");
        Check.due("casks there and on their way", x.count(3), 200);
        x.week();
        x.survey(0, 0, 0, 0);
        x.survey(0, 0, 0, 0);
        int[] want = {1, 3, 200, 200 - 7 - 6 - 10 - 2, 23, 2, 2, 2};
        for (int what = 0; what < 8; what++) {
            Check.due("count(" + what + ")", x.count(what), want[what]);
        }
    }

    private static void countsGoOn() {
        Check.sentence("27: (at their largest)");
        FleetStores x = new FleetStores();
        x.men(0, 1000);
        x.rations(0, 1);
        for (int i = 0; i < 300; i++) {
            x.buy(i % 2, 0, 0, 5000, 0, 0);
        }
        Check.due("casks bought", x.count(2), 1500000);
        Check.due("casks there", x.count(3), 1500000);
        Check.weeks(x, 110);
        Check.due("all 750,000 of the place were opened", x.count(5), 750000);
        Check.due("casks left", x.count(3), 750000);
        x.spoils(0, 9, 1000);
        x.week();
        Check.due("condemned", x.count(4), 750000);
        Check.due("none left", x.count(3), 0);
        Check.due("lots", x.count(1), 300);
    }

    private static void countNoneForOthers() {
        Check.sentence("27: NONE for others");
        FleetStores x = new FleetStores();
        for (int what : new int[] {MIN, -1, 8, MAX}) {
            Check.due("count(" + what + ")", x.count(what), -1);
        }
    }
}
