/** Promises 1 to 6: a new object, and what is told of places and kinds. */
public final class SettingsTest {
    public static void main(String[] args) {
        newObject();
        men();
        rations();
        spoils();
        way();
        lag();
        Check.end();
    }

    private static void newObject() {
        FleetStores x = new FleetStores();
        for (int what = 0; what < 8; what++) {
            Check.due("new: count " + what, x.count(what), 0);
        }
        for (int p = 0; p < 8; p++) {
            for (int k = 0; k < 4; k++) {
                Check.due("new: stock", x.stock(p, k), 0);
                Check.due("new: open", x.open(p, k), 0);
                Check.due("new: lacks", x.lacks(p, k), 0);
                Check.due("new: began", x.began(p, k, 0), 0);
                Check.due("new: known", x.known(p, k, 0), 0);
                Check.due("new: balance", x.balance(p, k), 0);
            }
            Check.due("new: lasts", x.lasts(p), 60);
        }
        for (int m = 0; m < 10; m++) {
            Check.due("new: owed", x.owed(m), 0);
        }
        Check.due("new: lot 0", x.lot(0, 3), FleetStores.NONE);
        Check.due("new: due 0", x.due(0), 0);
        Check.due("new: condemned 0", x.condemned(0), 0);
        Check.due("new: fault", x.fault(), FleetStores.NONE);
        Check.due("NONE", FleetStores.NONE, -1);
    }

    private static void men() {
        FleetStores x = new FleetStores();
        Check.yes("men(0, 0)", x.men(0, 0));
        Check.yes("men(7, 1000)", x.men(7, 1000));
        Check.no("men(8, 1)", x.men(8, 1));
        Check.no("men(-1, 1)", x.men(-1, 1));
        Check.no("men(7, 1001)", x.men(7, 1001));
        Check.no("men(7, -1)", x.men(7, -1));
        Check.no("men(MIN, MIN)", x.men(Integer.MIN_VALUE, Integer.MIN_VALUE));
        Check.no("men(MAX, MAX)", x.men(Integer.MAX_VALUE, Integer.MAX_VALUE));
        x.week();
        Check.due("a thousand men want 7,000", x.lacks(7, 3), 7000);
        Check.due("no men want nothing", x.lacks(6, 3), 0);
        Check.yes("men(7, 1)", x.men(7, 1));
        x.week();
        Check.due("men are as told last", x.lacks(7, 3), 7007);
    }

    private static void rations() {
        FleetStores x = new FleetStores();
        Check.no("rations(4, 1)", x.rations(4, 1));
        Check.no("rations(-1, 1)", x.rations(-1, 1));
        Check.no("rations(0, 0)", x.rations(0, 0));
        Check.no("rations(0, 501)", x.rations(0, 501));
        Check.yes("rations(0, 1)", x.rations(0, 1));
        Check.yes("rations(3, 500)", x.rations(3, 500));
        x.men(2, 1);
        for (int k = 0; k < 4; k++) {
            x.buy(2, 0, k, 20, 0, 0);
        }
        x.week();
        Check.due("seven casks of one ration", x.stock(2, 0), 13);
        Check.due("nothing stays open of them", x.open(2, 0), 0);
        Check.due("fifty at first", x.open(2, 1), 43);
        Check.due("one cask of 500", x.stock(2, 3), 19);
        Check.due("493 of it left", x.open(2, 3), 493);
        x.rations(3, 2);
        Check.due("what is open keeps what it has", x.open(2, 3), 493);
        x.week();
        Check.due("and is eaten first", x.open(2, 3), 486);
        Check.due("no other cask is opened", x.stock(2, 3), 19);
    }

    private static void spoils() {
        FleetStores x = new FleetStores();
        Check.no("spoils(4, 0, 1)", x.spoils(4, 0, 1));
        Check.no("spoils(-1, 0, 1)", x.spoils(-1, 0, 1));
        Check.no("spoils(0, 10, 1)", x.spoils(0, 10, 1));
        Check.no("spoils(0, -1, 1)", x.spoils(0, -1, 1));
        Check.no("spoils(0, 0, 1001)", x.spoils(0, 0, 1001));
        Check.no("spoils(0, 0, -1)", x.spoils(0, 0, -1));
        Check.yes("spoils(0, 1, 1)", x.spoils(0, 1, 1));
        Check.yes("spoils(3, 9, 1000)", x.spoils(3, 9, 1000));
        Check.yes("spoils(0, 1, 0)", x.spoils(0, 1, 0));
        x.buy(0, 0, 3, 10, 0, 0);
        x.buy(0, 0, 2, 10, 0, 0);
        Check.weeks(x, 36);
        Check.due("age 8 spoils nothing", x.stock(0, 3), 10);
        x.week();
        Check.due("age 9 spoils all", x.stock(0, 3), 0);
        Check.due("another kind keeps", x.stock(0, 2), 10);
    }

    private static void way() {
        FleetStores x = new FleetStores();
        Check.no("way(0, 0, 1)", x.way(0, 0, 1));
        Check.no("way(8, 0, 1)", x.way(8, 0, 1));
        Check.no("way(0, 8, 1)", x.way(0, 8, 1));
        Check.no("way(-1, 0, 1)", x.way(-1, 0, 1));
        Check.no("way(0, -1, 1)", x.way(0, -1, 1));
        Check.no("way(0, 1, 31)", x.way(0, 1, 31));
        Check.no("way(0, 1, -1)", x.way(0, 1, -1));
        Check.yes("way(0, 1, 30)", x.way(0, 1, 30));
        Check.yes("way(7, 2, 0)", x.way(7, 2, 0));
        x.week();
        x.buy(0, 0, 0, 10, 0, 0);
        x.buy(1, 0, 0, 10, 0, 0);
        x.buy(2, 0, 0, 10, 0, 0);
        Check.due("there", x.lot(x.send(0, 1, 1), 5), 31);
        Check.due("and back", x.lot(x.send(1, 0, 1), 5), 31);
        Check.due("none", x.lot(x.send(2, 7, 1), 5), 1);
        Check.due("two at first", x.lot(x.send(0, 7, 1), 5), 3);
        x.way(1, 0, 5);
        Check.due("what is on its way comes as it was to", x.lot(3, 5), 31);
        Check.due("told anew", x.lot(x.send(0, 1, 1), 5), 6);
    }

    private static void lag() {
        FleetStores x = new FleetStores();
        Check.no("lag(8, 0)", x.lag(8, 0));
        Check.no("lag(-1, 0)", x.lag(-1, 0));
        Check.no("lag(0, 31)", x.lag(0, 31));
        Check.no("lag(0, -1)", x.lag(0, -1));
        Check.yes("lag(7, 30)", x.lag(7, 30));
        x.buy(7, 0, 0, 9, 0, 0);
        x.buy(6, 0, 0, 9, 0, 0);
        Check.weeks(x, 31);
        Check.due("before the lag", x.known(7, 0, 29), -1);
        Check.due("week 0", x.known(7, 0, 30), 0);
        Check.due("week 1", x.known(7, 0, 31), 9);
        Check.due("no lag at first", x.known(6, 0, 1), 9);
        x.lag(7, 0);
        Check.due("the lag as it is now", x.known(7, 0, 1), 9);
    }
}
