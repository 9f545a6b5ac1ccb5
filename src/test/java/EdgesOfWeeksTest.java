/** Promises 9, 11, 12, 13 and 26, a sentence at a time: how a week ends, to the cask and ration. */
public final class EdgesOfWeeksTest {
    private static final int MIN = Integer.MIN_VALUE;
    private static final int MAX = Integer.MAX_VALUE;
    private static final int[] NO_PLACES = {MIN, -8, -1, 8, 9, MAX};
    private static final int[] NO_KINDS = {MIN, -4, -1, 4, 5, MAX};

    public static void main(String[] args) {
        nowAtMost();
        refusedWeekDoesNothing();
        comesBeforeItSpoils();
        comesBeforeItIsEaten();
        spoilingIsCut();
        spoilingByLots();
        ageIsCut();
        ageAtMost();
        ageOfWhatIsSent();
        doubleAtSea();
        doubleAtMost();
        spoilsBeforeItIsEaten();
        openDoesNotSpoil();
        sevenAMan();
        openFirst();
        openJustEnough();
        openOneTooFew();
        madeFirst();
        lowestNumber();
        emptyLotsAreLeftOut();
        lastOneStaysOpen();
        nothingStaysOpen();
        manyCasksOfManyLots();
        shortByOne();
        shortByPlaceAndKind();
        shortInAll();
        onItsWayIsNotEaten();
        stockIsNotOpen();
        noSuchStock();
        noSuchOpen();
        noSuchLacks();
        beganInWeekNought();
        beganIsTheEndOfTheOneAhead();
        beganBounds();
        beganInTheLastWeek();
        Check.end();
    }

    private static void nowAtMost() {
        Check.sentence("9: NOW is 200 at most; NONE: it is 200");
        FleetStores x = new FleetStores();
        for (int week = 1; week <= 200; week++) {
            Check.due("week", x.week(), week);
        }
        Check.due("one more", x.week(), -1);
        Check.due("and again", x.week(), -1);
        Check.due("now", x.count(0), 200);
    }

    private static void refusedWeekDoesNothing() {
        Check.sentence("9: NONE: it is 200 (and nothing comes, spoils, is eaten or written)");
        FleetStores x = new FleetStores();
        Check.weeks(x, 200);
        x.men(0, 1);
        x.men(1, 1);
        x.spoils(0, 0, 500);
        x.way(0, 1, 0);
        x.buy(0, 0, 0, 10, 0, 0);
        x.send(0, 1, 4);
        Check.due("week", x.week(), -1);
        Check.due("stock", x.stock(0, 0), 6);
        Check.due("on its way", x.lot(1, 5), 200);
        Check.due("not spoilt there", x.lot(1, 3), 4);
        Check.due("condemned", x.count(4), 0);
        Check.due("opened", x.count(5), 0);
        Check.due("lacks", x.lacks(1, 0), 0);
        Check.due("began", x.began(0, 0, 200), 0);
    }

    private static void comesBeforeItSpoils() {
        Check.sentence("9: (1) are at their PLACE from now on (so it spoils as it does there)");
        FleetStores x = new FleetStores();
        x.way(0, 1, 1);
        x.buy(0, 0, 0, 100, 0, 0);
        x.send(0, 1, 100);
        x.week();
        x.spoils(0, 0, 500);
        x.week();
        Check.due("half, not all", x.stock(1, 0), 50);
    }

    private static void comesBeforeItIsEaten() {
        Check.sentence("9: (1) are at their PLACE from now on (so it is eaten there)");
        FleetStores x = new FleetStores();
        x.way(0, 1, 0);
        x.men(1, 1);
        x.buy(0, 0, 0, 1, 0, 0);
        x.send(0, 1, 1);
        x.week();
        Check.due("open", x.open(1, 0), 43);
        Check.due("lacks", x.lacks(1, 0), 0);
    }

    private static void spoils(int casks, int part, int lost) {
        FleetStores x = new FleetStores();
        x.spoils(0, 0, part);
        x.buy(0, 0, 0, casks, 0, 0);
        x.week();
        Check.due(casks + " casks, " + part + ": lost", x.condemned(0), lost);
        Check.due(casks + " casks, " + part + ": left", x.stock(0, 0), casks - lost);
    }

    private static void spoilingIsCut() {
        Check.sentence("9: (2) casks times its SPOILING by 1,000, cut");
        spoils(1, 999, 0);
        spoils(1, 1000, 1);
        spoils(999, 1, 0);
        spoils(1000, 1, 1);
        spoils(1999, 1, 1);
        spoils(3, 333, 0);
        spoils(3, 334, 1);
        spoils(5000, 0, 0);
        spoils(5000, 999, 4995);
        spoils(4999, 999, 4994);
        spoils(5000, 1000, 5000);
    }

    private static void spoilingByLots() {
        Check.sentence("9: (2) Each LOT loses (cut for itself)");
        FleetStores x = new FleetStores();
        x.spoils(0, 0, 500);
        x.buy(0, 0, 0, 1, 0, 0);
        x.buy(0, 0, 0, 1, 0, 0);
        x.buy(0, 0, 0, 3, 0, 0);
        x.week();
        Check.due("half of one is none, twice, and one of three", x.stock(0, 0), 4);
        Check.due("an empty one loses none", x.send(0, 1, 1), 3);
        x.week();
        Check.due("condemned of the lot sent at sea", x.condemned(0), 1);
        Check.due("in all", x.count(4), 3);
    }

    private static void ageIsCut() {
        Check.sentence("SPOILING: AGE (WEEKS since it was made, by 4, cut");
        for (int age = 1; age < 10; age++) {
            FleetStores x = new FleetStores();
            x.week();
            x.spoils(0, age - 1, 1);
            x.spoils(0, age, 10);
            x.buy(0, 0, 0, 5000, 0, 0);
            Check.weeks(x, 4 * age - 1);
            int before = x.stock(0, 0);
            x.week();
            int last = x.stock(0, 0);
            Check.due("the last week of age " + (age - 1), before - last, before / 1000);
            x.week();
            Check.due("the first week of age " + age, last - x.stock(0, 0), last / 100);
        }
    }

    private static void ageAtMost() {
        Check.sentence("SPOILING: AGE ( .. 9 at most)");
        FleetStores x = new FleetStores();
        x.buy(0, 0, 0, 1000, 0, 0);
        Check.weeks(x, 39);
        x.spoils(0, 9, 100);
        x.week();
        Check.due("39 weeks", x.stock(0, 0), 900);
        x.week();
        Check.due("40 weeks", x.stock(0, 0), 810);
        x.spoils(0, 9, 0);
        Check.weeks(x, 158);
        x.spoils(0, 9, 100);
        x.week();
        Check.due("199 weeks", x.stock(0, 0), 729);
    }

    private static void ageOfWhatIsSent() {
        Check.sentence("SPOILING: WEEKS since it was made (not since it was sent or came)");
        FleetStores x = new FleetStores();
        x.spoils(0, 1, 100);
        x.way(0, 1, 0);
        x.buy(0, 0, 0, 100, 0, 0);
        Check.weeks(x, 3);
        x.send(0, 1, 100);
        x.week();
        Check.due("age 0", x.stock(1, 0), 100);
        x.week();
        Check.due("age 1", x.stock(1, 0), 90);
    }

    private static int leftAtSea(int part) {
        FleetStores x = new FleetStores();
        x.spoils(0, 0, part);
        x.buy(0, 0, 0, 1000, 0, 0);
        x.send(0, 1, 1000);
        x.week();
        return x.lot(1, 3);
    }

    private static void doubleAtSea() {
        Check.sentence("SPOILING: at sea it is double");
        Check.due("0", leftAtSea(0), 1000);
        Check.due("1", leftAtSea(1), 998);
        Check.due("499", leftAtSea(499), 2);
        Check.due("500", leftAtSea(500), 0);
    }

    private static void doubleAtMost() {
        Check.sentence("SPOILING: double (1,000 at most)");
        Check.due("501", leftAtSea(501), 0);
        Check.due("999", leftAtSea(999), 0);
        Check.due("1,000", leftAtSea(1000), 0);
        FleetStores x = new FleetStores();
        x.spoils(0, 0, 1000);
        x.buy(0, 0, 0, 1000, 0, 0);
        x.send(0, 1, 600);
        Check.weeks(x, 2);
        Check.due("no more than there were", x.condemned(0), 1000);
        Check.due("casks", x.count(3), 0);
    }

    private static void spoilsBeforeItIsEaten() {
        Check.sentence("9: (2) ahead of (3)");
        FleetStores x = new FleetStores();
        x.spoils(0, 0, 1000);
        x.men(0, 1);
        x.buy(0, 0, 0, 5, 0, 0);
        x.week();
        Check.due("all spoilt", x.condemned(0), 5);
        Check.due("none opened", x.count(5), 0);
        Check.due("lacks", x.lacks(0, 0), 7);
    }

    private static void openDoesNotSpoil() {
        Check.sentence("9: (2) Each LOT loses casks (what is OPEN does not)");
        FleetStores x = new FleetStores();
        x.men(0, 1);
        x.buy(0, 0, 0, 2, 0, 0);
        x.week();
        x.spoils(0, 0, 1000);
        x.week();
        Check.due("the cask is gone", x.stock(0, 0), 0);
        Check.due("what is open stays", x.open(0, 0), 36);
    }

    private static void sevenAMan() {
        Check.sentence("9: (3) Each PLACE, for each KIND, eats 7 RATIONS a man");
        for (int men : new int[] {0, 1, 999, 1000}) {
            FleetStores x = new FleetStores();
            x.men(5, men);
            x.rations(3, 500);
            Check.buyAllKinds(x, 5, 5000);
            x.week();
            for (int k = 0; k < 4; k++) {
                int size = k == 3 ? 500 : 50;
                Check.due(men + " men ate of kind " + k, (5000 - x.stock(5, k)) * size - x.open(5, k), 7 * men);
            }
        }
    }

    private static void openFirst() {
        Check.sentence("9: (3) first what an OPEN cask there has left");
        FleetStores x = new FleetStores();
        x.men(0, 1);
        x.buy(0, 0, 0, 9, 0, 0);
        x.week();
        for (int week = 1; week < 7; week++) {
            x.week();
            Check.due("open behind week " + week, x.open(0, 0), 43 - 7 * week);
            Check.due("stock", x.stock(0, 0), 8);
        }
        x.men(0, 0);
        x.week();
        Check.due("nobody eats of it", x.open(0, 0), 1);
    }

    private static void openJustEnough() {
        Check.sentence("9: (3) what an OPEN cask there has left (all that is wanted)");
        FleetStores x = new FleetStores();
        x.rations(0, 14);
        x.men(0, 1);
        x.buy(0, 0, 0, 2, 0, 0);
        Check.weeks(x, 2);
        Check.due("none left", x.open(0, 0), 0);
        Check.due("no other one is opened", x.stock(0, 0), 1);
        x.week();
        Check.due("the next", x.open(0, 0), 7);
    }

    private static void openOneTooFew() {
        Check.sentence("9: (3) then casks are opened (for a single RATION)");
        FleetStores x = new FleetStores();
        x.rations(0, 13);
        x.men(0, 1);
        x.buy(0, 0, 0, 2, 0, 0);
        Check.weeks(x, 2);
        Check.due("twelve left", x.open(0, 0), 12);
        Check.due("both were opened", x.stock(0, 0), 0);
        Check.due("opened", x.count(5), 2);
    }

    private static void madeFirst() {
        Check.sentence("9: (3) of the LOT there that was made first");
        FleetStores x = new FleetStores();
        x.way(0, 1, 0);
        x.buy(1, 0, 0, 5, 0, 0);
        x.week();
        x.buy(0, 0, 0, 5, 0, 0);
        x.buy(0, 0, 0, 5, 0, 0);
        x.send(0, 0, 1);
        x.men(0, 10);
        x.rations(0, 70);
        x.week();
        Check.due("the oldest, with the highest number", x.lot(3, 3), 0);
        Check.due("lot 1", x.lot(1, 3), 5);
        x.week();
        Check.due("lot 1 then", x.lot(1, 3), 4);
        Check.due("lot 2", x.lot(2, 3), 5);
    }

    private static void lowestNumber() {
        Check.sentence("9: (3) of several the lowest number");
        FleetStores x = new FleetStores();
        x.way(0, 1, 0);
        x.rations(0, 7);
        x.buy(1, 0, 0, 9, 0, 0);
        x.buy(0, 0, 0, 2, 0, 0);
        x.send(0, 0, 2);
        x.buy(0, 0, 0, 2, 0, 0);
        x.men(0, 1);
        int[] order = {1, 1, 2, 2, 3, 3};
        int[] left = {0, 2, 2, 2};
        for (int lot : order) {
            x.week();
            left[lot]--;
            for (int i = 1; i <= 3; i++) {
                Check.due("lot " + i + " behind week " + x.count(0), x.lot(i, 3), left[i]);
            }
        }
    }

    private static void emptyLotsAreLeftOut() {
        Check.sentence("9: (3) of the LOT there (that has casks)");
        FleetStores x = new FleetStores();
        x.buy(0, 0, 0, 5, 0, 0);
        x.buy(0, 0, 0, 5, 0, 0);
        x.send(0, 1, 5);
        x.men(0, 1);
        x.week();
        Check.due("the empty one stays empty", x.lot(0, 3), 0);
        Check.due("the next one is opened", x.lot(1, 3), 4);
        Check.due("lacks", x.lacks(0, 0), 0);
    }

    private static void lastOneStaysOpen() {
        Check.sentence("9: (3) what is left of the last one opened stays OPEN");
        FleetStores x = new FleetStores();
        x.rations(0, 4);
        x.men(0, 1);
        x.buy(0, 0, 0, 1, 0, 0);
        x.buy(0, 0, 0, 5, 0, 0);
        x.week();
        Check.due("one of the second cask", x.open(0, 0), 1);
        Check.due("two were opened", x.stock(0, 0), 4);
        x.week();
        Check.due("one, four and two of four", x.open(0, 0), 2);
        Check.due("two more were opened", x.stock(0, 0), 2);
    }

    private static void nothingStaysOpen() {
        Check.sentence("9: (3) what is left of the last one opened (nothing)");
        FleetStores x = new FleetStores();
        x.rations(0, 7);
        x.men(0, 2);
        x.buy(0, 0, 0, 3, 0, 0);
        x.week();
        Check.due("open", x.open(0, 0), 0);
        Check.due("stock", x.stock(0, 0), 1);
        x.week();
        Check.due("open, all eaten and more wanted", x.open(0, 0), 0);
        Check.due("stock", x.stock(0, 0), 0);
        Check.due("lacks", x.lacks(0, 0), 7);
    }

    private static void manyCasksOfManyLots() {
        Check.sentence("9: (3) casks are opened, one after the other (as many as there are)");
        FleetStores x = new FleetStores();
        x.rations(0, 1);
        x.men(0, 1000);
        for (int i = 0; i < 3; i++) {
            x.buy(0, 0, 0, 2333, 0, 0);
        }
        x.week();
        Check.due("6,999 of 7,000", x.lacks(0, 0), 1);
        Check.due("opened", x.count(5), 6999);
        Check.due("none left", x.count(3), 0);
    }

    private static void shortByOne() {
        Check.sentence("9: (3) What is lacking is SHORT (RATIONS)");
        FleetStores x = new FleetStores();
        x.men(0, 1);
        x.rations(0, 7);
        x.rations(1, 6);
        x.buy(0, 0, 0, 1, 0, 0);
        x.buy(0, 0, 1, 1, 0, 0);
        x.week();
        Check.due("none", x.lacks(0, 0), 0);
        Check.due("one", x.lacks(0, 1), 1);
        Check.due("all", x.lacks(0, 2), 7);
    }

    private static void shortByPlaceAndKind() {
        Check.sentence("9: (3) SHORT (counted by PLACE and KIND)");
        FleetStores x = new FleetStores();
        x.men(3, 2);
        x.men(4, 3);
        x.buy(3, 0, 1, 5, 0, 0);
        x.buy(4, 0, 2, 5, 0, 0);
        x.week();
        for (int p = 0; p < 8; p++) {
            for (int k = 0; k < 4; k++) {
                int want = p == 3 && k != 1 ? 14 : p == 4 && k != 2 ? 21 : 0;
                Check.due("lacks(" + p + ", " + k + ")", x.lacks(p, k), want);
            }
        }
    }

    private static void shortInAll() {
        Check.sentence("13: SHORT in all");
        FleetStores x = new FleetStores();
        x.men(7, 1000);
        Check.weeks(x, 200);
        Check.due("all weeks", x.lacks(7, 3), 1400000);
        x.week();
        Check.due("no more", x.lacks(7, 3), 1400000);
    }

    private static void onItsWayIsNotEaten() {
        Check.sentence("9: (3) of the LOT there (not of one on its WAY)");
        FleetStores x = new FleetStores();
        x.men(0, 1);
        x.men(1, 1);
        x.way(0, 1, 1);
        x.buy(0, 0, 0, 5, 0, 0);
        x.send(0, 1, 5);
        x.week();
        Check.due("neither here", x.lacks(0, 0), 7);
        Check.due("nor there", x.lacks(1, 0), 7);
        Check.due("all are left", x.lot(1, 3), 5);
    }

    private static void stockIsNotOpen() {
        Check.sentence("11: casks of LOTS there (OPEN not)");
        FleetStores x = new FleetStores();
        x.men(2, 1);
        x.buy(2, 0, 1, 1, 0, 0);
        Check.due("bought", x.stock(2, 1), 1);
        x.week();
        Check.due("open", x.stock(2, 1), 0);
        x.buy(2, 0, 1, 5000, 0, 0);
        x.buy(2, 1, 1, 5000, 0, 0);
        x.buy(2, 0, 0, 7, 0, 0);
        x.buy(1, 0, 1, 8, 0, 0);
        x.send(1, 3, 1);
        Check.due("of all lots there", x.stock(2, 1), 9999);
        Check.due("not of what is on its way", x.stock(3, 1), 0);
    }

    private static void noSuchStock() {
        Check.sentence("11: NONE: no such PLACE, KIND");
        FleetStores x = new FleetStores();
        x.week();
        for (int p : NO_PLACES) {
            Check.due("place " + p, x.stock(p, 0), -1);
        }
        for (int k : NO_KINDS) {
            Check.due("kind " + k, x.stock(1, k), -1);
        }
        Check.due("the last of each", x.stock(7, 3), 0);
    }

    private static void noSuchOpen() {
        Check.sentence("12: NONE likewise");
        FleetStores x = new FleetStores();
        x.week();
        for (int p : NO_PLACES) {
            Check.due("place " + p, x.open(p, 0), -1);
        }
        for (int k : NO_KINDS) {
            Check.due("kind " + k, x.open(1, k), -1);
        }
        Check.due("the last of each", x.open(7, 3), 0);
    }

    private static void noSuchLacks() {
        Check.sentence("13: NONE likewise");
        FleetStores x = new FleetStores();
        x.week();
        for (int p : NO_PLACES) {
            Check.due("place " + p, x.lacks(p, 0), -1);
        }
        for (int k : NO_KINDS) {
            Check.due("kind " + k, x.lacks(1, k), -1);
        }
        Check.due("the last of each", x.lacks(7, 3), 0);
    }

    private static void beganInWeekNought() {
        Check.sentence("26: (WEEK 0: 0)");
        FleetStores x = new FleetStores();
        x.buy(0, 0, 0, 5, 0, 0);
        Check.due("with a purchase", x.began(0, 0, 0), 0);
        Check.weeks(x, 2);
        Check.due("later", x.began(0, 0, 0), 0);
    }

    private static void beganIsTheEndOfTheOneAhead() {
        Check.sentence("26: behind the end of the one ahead, sendings and purchases of that WEEK not");
        FleetStores x = new FleetStores();
        x.way(0, 1, 0);
        x.men(0, 1);
        x.spoils(0, 0, 100);
        x.buy(0, 0, 0, 20, 0, 0);
        x.week();
        Check.due("20 less 2 spoilt and 1 opened", x.began(0, 0, 1), 17);
        x.send(0, 1, 5);
        x.buy(0, 0, 0, 50, 0, 0);
        Check.due("sent from there in it", x.began(0, 0, 1), 17);
        Check.due("sent there in it", x.began(1, 0, 1), 0);
        x.week();
        Check.due("still", x.began(0, 0, 1), 17);
        Check.due("12 less 1 and 50 less 5", x.began(0, 0, 2), 56);
        Check.due("what came", x.began(1, 0, 2), 5);
    }

    private static void beganBounds() {
        Check.sentence("26: a WEEK (0 .. NOW); NONE: no such");
        FleetStores x = new FleetStores();
        Check.weeks(x, 3);
        for (int week : new int[] {MIN, -1, 4, 200, 201, MAX}) {
            Check.due("week " + week, x.began(0, 0, week), -1);
        }
        for (int p : NO_PLACES) {
            Check.due("place " + p, x.began(p, 0, 3), -1);
        }
        for (int k : NO_KINDS) {
            Check.due("kind " + k, x.began(1, k, 3), -1);
        }
        for (int week = 0; week <= 3; week++) {
            Check.due("week " + week, x.began(7, 3, week), 0);
        }
    }

    private static void beganInTheLastWeek() {
        Check.sentence("26: a WEEK (0 .. NOW) (200 at most)");
        FleetStores x = new FleetStores();
        Check.weeks(x, 199);
        x.buy(0, 0, 0, 5, 0, 0);
        Check.due("not yet", x.began(0, 0, 200), -1);
        x.week();
        Check.due("week 199", x.began(0, 0, 199), 0);
        Check.due("week 200", x.began(0, 0, 200), 5);
        Check.due("week 201", x.began(0, 0, 201), -1);
    }
}
