/** Promises 14 and 15: what place 0 knows, and how long a place will last. */
public final class LettersAndLastsTest {
    public static void main(String[] args) {
        letters();
        lastsPlainly();
        lastsWithWhatComes();
        lastsWithSpoiling();
        lastsWithOpen();
        lastsToTheRation();
        lastsOfWhatWasMadeLater();
        lastsChangesNothing();
        lastsNearTheLastWeek();
        Check.end();
    }

    private static void letters() {
        FleetStores x = new FleetStores();
        x.lag(2, 3);
        for (int week = 0; week < 6; week++) {
            x.buy(2, 0, 1, 1 + week, 0, 0);
            x.week();
        }
        Check.due("nothing yet", x.known(2, 1, 2), -1);
        Check.due("week 0", x.known(2, 1, 3), 0);
        Check.due("week 1", x.known(2, 1, 4), 1);
        Check.due("week 3", x.known(2, 1, 6), 6);
        Check.due("week 7 is not yet", x.known(2, 1, 7), -1);
        Check.due("week -1", x.known(2, 1, -1), -1);
        Check.due("of place 0 itself", x.known(0, 1, 6), 0);
        x.lag(2, 6);
        Check.due("a longer lag now", x.known(2, 1, 6), 0);
        Check.due("and nothing ahead of it", x.known(2, 1, 5), -1);
    }

    private static void lastsPlainly() {
        FleetStores x = new FleetStores();
        Check.due("place 8", x.lasts(8), -1);
        Check.due("place -1", x.lasts(-1), -1);
        Check.due("nobody there", x.lasts(4), 60);
        x.men(4, 50);
        Check.due("nothing there", x.lasts(4), 0);
        Check.buyAllKinds(x, 4, 7);
        Check.due("350 rations for one week", x.lasts(4), 1);
        Check.buyAllKinds(x, 4, 6);
        Check.due("650 for one", x.lasts(4), 1);
        x.buy(4, 0, 0, 1, 0, 0);
        Check.due("the least of the kinds", x.lasts(4), 1);
        x.buy(4, 0, 1, 1, 0, 0);
        x.buy(4, 0, 2, 1, 0, 0);
        x.buy(4, 0, 3, 1, 0, 0);
        Check.due("700 for two", x.lasts(4), 2);
        Check.buyAllKinds(x, 4, 7 * 57);
        Check.due("59 weeks", x.lasts(4), 59);
        Check.buyAllKinds(x, 4, 7);
        Check.due("60 weeks", x.lasts(4), 60);
        Check.buyAllKinds(x, 4, 5000);
        Check.due("60 at most", x.lasts(4), 60);
        Check.due("nobody elsewhere", x.lasts(5), 60);
    }

    private static void lastsWithWhatComes() {
        FleetStores x = new FleetStores();
        x.men(1, 50);
        x.way(0, 1, 1);
        Check.buyAllKinds(x, 0, 100);
        for (int k = 0; k < 4; k++) {
            x.send(k, 1, 21);
        }
        Check.due("it comes too late for this week", x.lasts(1), 0);
        Check.buyAllKinds(x, 1, 7);
        Check.due("this week and three more", x.lasts(1), 4);
        x.week();
        Check.due("three more", x.lasts(1), 3);
        x.way(0, 1, 0);
        x.send(0, 1, 7);
        x.send(1, 1, 7);
        x.send(2, 1, 7);
        Check.due("all kinds are wanted", x.lasts(1), 3);
        x.send(3, 1, 7);
        Check.due("what comes at once counts", x.lasts(1), 4);
    }

    private static void lastsWithSpoiling() {
        FleetStores x = new FleetStores();
        x.men(1, 50);
        x.way(0, 1, 2);
        x.spoils(0, 0, 250);
        Check.buyAllKinds(x, 0, 5000);
        Check.buyAllKinds(x, 1, 28);
        for (int k = 0; k < 4; k++) {
            x.send(k, 1, 56);
        }
        // Kind 0, seven casks a week: there 28 - 7 - 7 = 14, 14 - 3 - 7 = 4; at sea 56 - 28 = 28,
        // 28 - 14 = 14. In week 2 all are there: 4 - 1 and 14 - 3 less 7 are 7; in week 3 but 6.
        Check.due("spoiling at sea and there", x.lasts(1), 3);
        x.spoils(0, 0, 0);
        Check.due("without it", x.lasts(1), 12);
        x.spoils(0, 1, 1000);
        Check.due("all spoils at age 1", x.lasts(1), 4);
        x.spoils(0, 1, 0);
        x.spoils(3, 2, 1000);
        Check.due("another kind at age 2", x.lasts(1), 8);
    }

    private static void lastsWithOpen() {
        FleetStores x = new FleetStores();
        x.men(3, 1);
        Check.buyAllKinds(x, 3, 1);
        Check.due("50 rations: 7 weeks", x.lasts(3), 7);
        x.week();
        Check.due("43 of them open: 6 weeks", x.lasts(3), 6);
        x.rations(0, 500);
        Check.due("what is open keeps", x.lasts(3), 6);
        x.men(3, 0);
        Check.due("nobody", x.lasts(3), 60);
    }

    private static void lastsToTheRation() {
        FleetStores x = new FleetStores();
        x.men(3, 1);
        for (int k = 0; k < 4; k++) {
            x.rations(k, 14);
        }
        Check.buyAllKinds(x, 3, 1);
        Check.due("14 of each", x.lasts(3), 2);
        for (int k = 0; k < 4; k++) {
            x.rations(k, 13);
            Check.due("one lacking of kind " + k, x.lasts(3), 1);
            x.rations(k, 14);
            Check.due("none lacking of it", x.lasts(3), 2);
        }
    }

    private static void lastsOfWhatWasMadeLater() {
        FleetStores x = new FleetStores();
        Check.weeks(x, 10);
        x.men(3, 50);
        x.spoils(2, 1, 1000);
        Check.buyAllKinds(x, 3, 7 * 20);
        Check.due("four weeks of age 0", x.lasts(3), 4);
        Check.weeks(x, 3);
        Check.due("one more", x.lasts(3), 1);
    }

    private static void lastsChangesNothing() {
        FleetStores x = new FleetStores();
        x.men(1, 20);
        x.spoils(2, 0, 100);
        Check.buyAllKinds(x, 1, 30);
        x.buy(0, 0, 0, 40, 0, 0);
        x.send(4, 1, 10);
        x.week();
        int open = x.open(1, 2);
        int lasts = x.lasts(1);
        Check.due("the same again", x.lasts(1), lasts);
        Check.due("open", x.open(1, 2), open);
        Check.due("stock", x.stock(1, 0), 27);
        Check.due("spoilt", x.stock(1, 2), 24);
        Check.due("on its way", x.lot(5, 5), 2);
        Check.due("condemned", x.count(4), 3);
        Check.due("opened", x.count(5), 12);
        Check.due("lacks", x.lacks(1, 0), 0);
        Check.due("now", x.count(0), 1);
    }

    private static void lastsNearTheLastWeek() {
        FleetStores x = new FleetStores();
        Check.weeks(x, 200);
        x.men(2, 50);
        Check.due("nothing there", x.lasts(2), 0);
        Check.buyAllKinds(x, 2, 21);
        Check.due("three weeks, though none of them will come", x.lasts(2), 3);
        Check.due("nobody", x.lasts(3), 60);
    }
}
