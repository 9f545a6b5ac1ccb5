/** Promises 9, 11, 12, 13, 23 and 26: how a week ends, and what it leaves. */
public final class WeeksTest {
    public static void main(String[] args) {
        twoHundred();
        oldestFirst();
        lowestNumberOfOneWeek();
        sentKeepsItsWeek();
        comingSpoilingEating();
        spoilingAtSea();
        ages();
        agesOfOneMadeLater();
        oneRationMore();
        openCask();
        began();
        noSuch();
        Check.end();
    }

    private static void twoHundred() {
        FleetStores x = new FleetStores();
        x.men(0, 1);
        for (int i = 1; i <= 200; i++) {
            Check.due("week", x.week(), i);
        }
        Check.due("a 201st week", x.week(), -1);
        Check.due("now", x.count(0), 200);
        Check.due("nothing is eaten in it", x.lacks(0, 0), 1400);
        Check.due("bought in week 200", x.buy(0, 0, 0, 5, 0, 0), 0);
        Check.due("sent in week 200", x.lot(x.send(0, 1, 1), 5), 202);
        Check.due("began in week 200", x.began(0, 0, 200), 0);
        Check.due("week 201", x.began(0, 0, 201), -1);
    }

    private static void oldestFirst() {
        FleetStores x = new FleetStores();
        x.buy(0, 0, 0, 2, 0, 0);
        x.week();
        x.buy(0, 0, 0, 2, 0, 0);
        x.men(0, 15);
        x.week();
        Check.due("the older is eaten up", x.lot(0, 3), 0);
        Check.due("then one of the younger", x.lot(1, 3), 1);
        Check.due("45 left", x.open(0, 0), 45);
        Check.due("opened", x.count(5), 3);
        x.week();
        Check.due("then the last", x.lot(1, 3), 0);
        Check.due("short of 10", x.lacks(0, 0), 10);
        Check.due("nothing open", x.open(0, 0), 0);
    }

    private static void lowestNumberOfOneWeek() {
        FleetStores x = new FleetStores();
        x.buy(1, 5, 0, 3, 0, 0);
        x.buy(1, 4, 0, 3, 0, 0);
        x.buy(1, 3, 0, 3, 0, 0);
        x.men(1, 25);
        x.week();
        Check.due("lot 0", x.lot(0, 3), 0);
        Check.due("lot 1", x.lot(1, 3), 2);
        Check.due("lot 2", x.lot(2, 3), 3);
    }

    private static void sentKeepsItsWeek() {
        FleetStores x = new FleetStores();
        x.buy(1, 0, 0, 9, 0, 0);
        x.week();
        x.buy(0, 0, 0, 9, 0, 0);
        x.way(0, 1, 0);
        x.send(0, 0, 4);
        x.men(0, 15);
        x.week();
        Check.due("what came, made first, is eaten first", x.lot(2, 3), 1);
        Check.due("what was bought there waits", x.lot(1, 3), 9);
        x.week();
        Check.due("the rest of it", x.lot(2, 3), 0);
        Check.due("then the other", x.lot(1, 3), 8);
    }

    private static void comingSpoilingEating() {
        FleetStores x = new FleetStores();
        x.spoils(0, 0, 400);
        x.way(0, 1, 1);
        x.buy(0, 0, 0, 10, 0, 0);
        x.send(0, 1, 5);
        x.men(1, 10);
        x.week();
        Check.due("at sea, double: 4 of 5", x.lot(1, 3), 1);
        Check.due("not there yet", x.stock(1, 0), 0);
        Check.due("nor eaten", x.lacks(1, 0), 70);
        Check.due("here 2 of 5", x.lot(0, 3), 3);
        Check.due("condemned", x.condemned(0), 6);
        x.week();
        Check.due("there before it spoils, cut to none, and eaten", x.lot(1, 3), 0);
        Check.due("50 of 70", x.lacks(1, 0), 90);
        Check.due("here 1 of 3", x.lot(0, 3), 2);
        Check.due("condemned in all", x.count(4), 7);
        Check.due("of another mark", x.condemned(1), 0);
        Check.due("opened", x.count(5), 1);
    }

    private static void spoilingAtSea() {
        FleetStores x = new FleetStores();
        x.spoils(0, 0, 501);
        x.spoils(1, 0, 499);
        for (int k = 0; k < 2; k++) {
            x.buy(0, 0, k, 2000, 0, 0);
            x.send(2 * k, 1, 1000);
        }
        x.week();
        Check.due("a thousand of a thousand at most", x.lot(1, 3), 0);
        Check.due("998 of a thousand", x.lot(3, 3), 2);
        Check.due("501 here", x.lot(0, 3), 499);
        Check.due("499 here", x.lot(2, 3), 501);
        Check.due("by marks: 0", x.condemned(0), 1501);
        Check.due("by marks: 2", x.condemned(2), 1497);
        Check.due("a lot sent has none of its own", x.condemned(1) + x.condemned(3), 0);
        Check.due("others", x.condemned(4) + x.condemned(-1) + x.condemned(Integer.MAX_VALUE), 0);
    }

    private static void ages() {
        FleetStores x = new FleetStores();
        for (int age = 0; age < 10; age++) {
            x.spoils(2, age, age + 1);
        }
        x.buy(5, 0, 2, 5000, 0, 0);
        int casks = 5000;
        for (int week = 0; week < 60; week++) {
            x.week();
            casks -= casks * (Math.min(9, week / 4) + 1) / 1000;
            Check.due("casks behind week " + week, x.stock(5, 2), casks);
        }
        Check.due("condemned", x.condemned(0), 5000 - casks);
    }

    private static void agesOfOneMadeLater() {
        FleetStores x = new FleetStores();
        x.spoils(0, 1, 100);
        Check.weeks(x, 3);
        x.buy(0, 0, 0, 100, 0, 0);
        Check.weeks(x, 4);
        Check.due("age 0 for four weeks", x.stock(0, 0), 100);
        x.week();
        Check.due("age 1 then", x.stock(0, 0), 90);
    }

    private static void oneRationMore() {
        FleetStores x = new FleetStores();
        x.rations(0, 6);
        x.men(0, 1);
        x.buy(0, 0, 0, 1, 0, 0);
        x.week();
        Check.due("one is lacking", x.lacks(0, 0), 1);
        x.buy(0, 0, 0, 1, 0, 0);
        x.buy(0, 0, 0, 1, 0, 0);
        x.week();
        Check.due("a cask is opened for one", x.stock(0, 0), 0);
        Check.due("five are left of it", x.open(0, 0), 5);
        Check.due("no more is lacking", x.lacks(0, 0), 1);
    }

    private static void openCask() {
        FleetStores x = new FleetStores();
        x.rations(0, 7);
        x.men(0, 3);
        x.buy(0, 0, 0, 4, 0, 0);
        x.week();
        Check.due("three casks, no more", x.stock(0, 0), 1);
        Check.due("nothing open", x.open(0, 0), 0);
        x.rations(0, 100);
        x.week();
        Check.due("79 left", x.open(0, 0), 79);
        Check.due("open is no stock", x.stock(0, 0), 0);
        Check.due("nor counted", x.count(3), 0);
        Check.weeks(x, 4);
        Check.due("5 lacking", x.lacks(0, 0), 5);
        Check.due("none open at another place", x.open(1, 0), 0);
    }

    private static void began() {
        FleetStores x = new FleetStores();
        x.buy(0, 0, 1, 10, 0, 0);
        Check.due("week 0: purchases not", x.began(0, 1, 0), 0);
        x.way(0, 3, 0);
        x.week();
        Check.due("week 1", x.began(0, 1, 1), 10);
        x.send(0, 3, 4);
        x.buy(0, 0, 1, 7, 0, 0);
        Check.due("week 1: sendings and purchases of it not", x.began(0, 1, 1), 10);
        x.week();
        Check.due("week 2", x.began(0, 1, 2), 13);
        Check.due("week 2 there", x.began(3, 1, 2), 4);
        Check.due("week 1 there", x.began(3, 1, 1), 0);
        Check.due("week 1 as it was", x.began(0, 1, 1), 10);
        Check.due("week 3", x.began(0, 1, 3), -1);
        Check.due("week -1", x.began(0, 1, -1), -1);
        Check.due("another kind", x.began(0, 2, 2), 0);
    }

    private static void noSuch() {
        FleetStores x = new FleetStores();
        int[][] wrong = {{8, 0}, {-1, 0}, {0, 4}, {0, -1}, {1, -4}, {Integer.MAX_VALUE, Integer.MIN_VALUE}};
        for (int[] w : wrong) {
            Check.due("stock, no such", x.stock(w[0], w[1]), -1);
            Check.due("open, no such", x.open(w[0], w[1]), -1);
            Check.due("lacks, no such", x.lacks(w[0], w[1]), -1);
            Check.due("began, no such", x.began(w[0], w[1], 0), -1);
            Check.due("known, no such", x.known(w[0], w[1], 0), -1);
        }
    }
}
