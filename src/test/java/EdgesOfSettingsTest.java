/** Promises 1 to 6, a sentence at a time: what is so at first, and the bounds of what is told. */
public final class EdgesOfSettingsTest {
    private static final int MIN = Integer.MIN_VALUE;
    private static final int MAX = Integer.MAX_VALUE;
    private static final int[] NO_PLACES = {MIN, -8, -1, 8, 9, MAX};
    private static final int[] NO_KINDS = {MIN, -4, -1, 4, 5, MAX};

    public static void main(String[] args) {
        nowAtFirst();
        menAtFirst();
        rationsAtFirst();
        spoilingAtFirst();
        wayAtFirst();
        lagAtFirst();
        contractAtFirst();
        objectsApart();
        menOfPlaces();
        menLeastAndMost();
        menRefused();
        rationsOfKinds();
        rationsLeast();
        rationsMost();
        rationsRefused();
        rationsOfWhatIsOpen();
        spoilsOfKinds();
        spoilsOfAges();
        spoilsLeastAndMost();
        spoilsRefused();
        wayOfPlaces();
        wayAlike();
        wayLeastAndMost();
        wayEitherWay();
        wayRefused();
        lagOfPlaces();
        lagLeastAndMost();
        lagRefused();
        lagAsToldNow();
        Check.end();
    }

    private static void nowAtFirst() {
        Check.sentence("1: NOW is 0 at first; nothing");
        FleetStores x = new FleetStores();
        for (int what = 0; what < 8; what++) {
            Check.due("count(" + what + ")", x.count(what), 0);
        }
        Check.due("week 0 is the only one: began", x.began(0, 0, 1), -1);
        Check.due("known", x.known(0, 0, 1), -1);
        Check.due("survey", x.survey(0, 0, 1, 0), -1000000);
        Check.due("no lot", x.lot(0, 0), -1);
        Check.due("none to draw", x.draw(0, 0, 0), -1);
        Check.due("none to send", x.send(0, 1, 1), -1);
        Check.due("the first week", x.week(), 1);
    }

    private static void menAtFirst() {
        Check.sentence("1: MEN (0 at first)");
        FleetStores x = new FleetStores();
        x.week();
        for (int p = 0; p < 8; p++) {
            for (int k = 0; k < 4; k++) {
                Check.due("lacks", x.lacks(p, k), 0);
            }
            Check.due("lasts", x.lasts(p), 60);
        }
    }

    private static void rationsAtFirst() {
        Check.sentence("1: RATIONS (50 at first)");
        FleetStores x = new FleetStores();
        x.men(6, 1);
        Check.buyAllKinds(x, 6, 1);
        x.week();
        for (int k = 0; k < 4; k++) {
            Check.due("50 less 7, kind " + k, x.open(6, k), 43);
        }
    }

    private static void spoilingAtFirst() {
        Check.sentence("1: SPOILING (0 at first)");
        FleetStores x = new FleetStores();
        for (int p = 1; p < 8; p++) {
            x.way(0, p, 30);
        }
        Check.buyAllKinds(x, 0, 5000);
        for (int k = 0; k < 4; k++) {
            x.send(k, 1 + k, 2500);
        }
        for (int week = 0; week < 48; week++) {
            x.week();
            Check.due("condemned behind week " + week, x.count(4), 0);
        }
        Check.due("all are left", x.count(3), 20000);
    }

    private static void wayAtFirst() {
        Check.sentence("1: WAY (2 at first)");
        FleetStores x = new FleetStores();
        for (int p = 0; p < 8; p++) {
            int lot = x.buy(p, 0, 0, 8, 0, 0);
            for (int to = 0; to < 8; to++) {
                if (to != p) {
                    Check.due("from " + p + " to " + to, x.lot(x.send(lot, to, 1), 5), 2);
                }
            }
        }
    }

    private static void lagAtFirst() {
        Check.sentence("1: LAG (0 at first)");
        FleetStores x = new FleetStores();
        for (int p = 0; p < 8; p++) {
            x.buy(p, 0, 1, 10 + p, 0, 0);
        }
        x.week();
        for (int p = 0; p < 8; p++) {
            Check.due("known in week 0 of " + p, x.known(p, 1, 0), 0);
            Check.due("known in week 1 of " + p, x.known(p, 1, 1), 10 + p);
        }
    }

    private static void contractAtFirst() {
        Check.sentence("1: no CONTRACT, an empty TAPE");
        FleetStores x = new FleetStores();
        Check.due("fault", x.fault(), -1);
        for (int maker = 0; maker < 10; maker++) {
            Check.due("owed to " + maker, x.owed(maker), 0);
            x.buy(0, maker, 0, 5, 7, 100 + maker);
            x.draw(maker, 5, maker);
            Check.due("the price alone", x.due(maker), 100 + maker);
        }
    }

    private static void objectsApart() {
        Check.sentence("1: All as told (whatever another object was told)");
        FleetStores other = new FleetStores();
        other.men(0, 1000);
        other.rations(0, 1);
        other.spoils(0, 0, 1000);
        other.way(0, 1, 30);
        other.lag(0, 30);
        Check.contract(other, 0, "k=0:7");
        other.buy(0, 0, 0, 5, 0, 0);
        Check.feed(other, "b");
        other.week();
        nowAtFirst();
        menAtFirst();
        rationsAtFirst();
        spoilingAtFirst();
        wayAtFirst();
        lagAtFirst();
        contractAtFirst();
    }

    private static void menOfPlaces() {
        Check.sentence("2: PLACES 0 .. 7");
        FleetStores x = new FleetStores();
        for (int p : NO_PLACES) {
            Check.no("men(" + p + ", 1)", x.men(p, 1));
        }
        for (int p = 0; p < 8; p++) {
            Check.yes("men(" + p + ", ..)", x.men(p, 1 + p));
        }
        x.week();
        for (int p = 0; p < 8; p++) {
            Check.due("each has its own: " + p, x.lacks(p, 0), 7 * (1 + p));
        }
    }

    private static void menLeastAndMost() {
        Check.sentence("2: MEN (0 .. 1,000)");
        FleetStores x = new FleetStores();
        Check.yes("men(1, 1000)", x.men(1, 1000));
        x.week();
        Check.due("a thousand eat 7,000", x.lacks(1, 2), 7000);
        Check.yes("men(1, 0)", x.men(1, 0));
        x.week();
        Check.due("none eat nothing", x.lacks(1, 2), 7000);
    }

    private static void menRefused() {
        Check.sentence("2: False: out of bounds");
        FleetStores x = new FleetStores();
        x.men(1, 3);
        for (int many : new int[] {MIN, -1, 1001, MAX}) {
            Check.no("men(1, " + many + ")", x.men(1, many));
        }
        x.week();
        Check.due("they are as they were", x.lacks(1, 2), 21);
    }

    private static void rationsOfKinds() {
        Check.sentence("3: KINDS 0 .. 3");
        FleetStores x = new FleetStores();
        for (int k : NO_KINDS) {
            Check.no("rations(" + k + ", 9)", x.rations(k, 9));
        }
        for (int k = 0; k < 4; k++) {
            Check.yes("rations(" + k + ", ..)", x.rations(k, 10 + k));
        }
        x.men(0, 1);
        Check.buyAllKinds(x, 0, 1);
        x.week();
        for (int k = 0; k < 4; k++) {
            Check.due("each has its own: " + k, x.open(0, k), 3 + k);
        }
    }

    private static void rationsLeast() {
        Check.sentence("3: RATIONS (1 .. ");
        FleetStores x = new FleetStores();
        Check.yes("rations(2, 1)", x.rations(2, 1));
        x.men(0, 1);
        x.buy(0, 0, 2, 8, 0, 0);
        x.week();
        Check.due("a cask a ration", x.stock(0, 2), 1);
        Check.due("nothing open", x.open(0, 2), 0);
    }

    private static void rationsMost() {
        Check.sentence("3: RATIONS ( .. 500)");
        FleetStores x = new FleetStores();
        Check.yes("rations(2, 500)", x.rations(2, 500));
        x.men(0, 1000);
        x.buy(0, 0, 2, 15, 0, 0);
        x.week();
        Check.due("14 casks for a thousand men", x.stock(0, 2), 1);
        Check.due("nothing open", x.open(0, 2), 0);
    }

    private static void rationsRefused() {
        Check.sentence("3: False: out of bounds");
        FleetStores x = new FleetStores();
        x.rations(2, 77);
        for (int many : new int[] {MIN, -1, 0, 501, MAX}) {
            Check.no("rations(2, " + many + ")", x.rations(2, many));
        }
        x.men(0, 1);
        x.buy(0, 0, 2, 1, 0, 0);
        x.week();
        Check.due("they are as they were", x.open(0, 2), 70);
    }

    private static void rationsOfWhatIsOpen() {
        Check.sentence("3: those that are OPEN keep what they have");
        FleetStores x = new FleetStores();
        x.men(0, 1);
        x.buy(0, 0, 2, 2, 0, 0);
        x.week();
        x.rations(2, 1);
        Check.due("more than a cask has now", x.open(0, 2), 43);
        Check.weeks(x, 6);
        Check.due("one left", x.open(0, 2), 1);
        x.rations(2, 500);
        Check.due("less than a cask has now", x.open(0, 2), 1);
        x.week();
        Check.due("one and 6 of 500", x.open(0, 2), 494);
    }

    private static void spoilsOfKinds() {
        Check.sentence("4: KINDS 0 .. 3");
        FleetStores x = new FleetStores();
        for (int k : NO_KINDS) {
            Check.no("spoils(" + k + ", 0, 1)", x.spoils(k, 0, 1));
        }
        for (int k = 0; k < 4; k++) {
            Check.yes("spoils(" + k + ", 0, ..)", x.spoils(k, 0, 100 + k));
        }
        Check.buyAllKinds(x, 0, 1000);
        x.week();
        for (int k = 0; k < 4; k++) {
            Check.due("each has its own: " + k, x.condemned(k), 100 + k);
        }
    }

    private static void spoilsOfAges() {
        Check.sentence("4: for an AGE (0 .. 9)");
        for (int age = 0; age < 10; age++) {
            FleetStores x = new FleetStores();
            Check.no("spoils(1, -1, 1000)", x.spoils(1, -1, 1000));
            Check.no("spoils(1, 10, 1000)", x.spoils(1, 10, 1000));
            Check.no("spoils(1, MIN, 1000)", x.spoils(1, MIN, 1000));
            Check.no("spoils(1, MAX, 1000)", x.spoils(1, MAX, 1000));
            Check.yes("spoils(1, " + age + ", 1000)", x.spoils(1, age, 1000));
            x.buy(0, 0, 1, 10, 0, 0);
            Check.weeks(x, 4 * age);
            Check.due("not before age " + age, x.stock(0, 1), 10);
            x.week();
            Check.due("at age " + age, x.stock(0, 1), 0);
        }
    }

    private static void spoilsLeastAndMost() {
        Check.sentence("4: so many of a thousand (0 .. 1,000)");
        FleetStores x = new FleetStores();
        Check.yes("spoils(1, 0, 1000)", x.spoils(1, 0, 1000));
        x.buy(0, 0, 1, 5000, 0, 0);
        x.week();
        Check.due("all of them", x.condemned(0), 5000);
        Check.yes("spoils(1, 0, 0)", x.spoils(1, 0, 0));
        x.buy(0, 0, 1, 5000, 0, 0);
        x.week();
        Check.due("none of them", x.condemned(1), 0);
    }

    private static void spoilsRefused() {
        Check.sentence("4: False: out of bounds");
        FleetStores x = new FleetStores();
        x.spoils(1, 0, 300);
        for (int part : new int[] {MIN, -1, 1001, MAX}) {
            Check.no("spoils(1, 0, " + part + ")", x.spoils(1, 0, part));
        }
        x.buy(0, 0, 1, 10, 0, 0);
        x.week();
        Check.due("it is as it was", x.condemned(0), 3);
    }

    private static void wayOfPlaces() {
        Check.sentence("5: PLACES 0 .. 7");
        FleetStores x = new FleetStores();
        for (int p : NO_PLACES) {
            Check.no("way(" + p + ", 0, 1)", x.way(p, 0, 1));
            Check.no("way(7, " + p + ", 1)", x.way(7, p, 1));
            Check.no("way(" + p + ", " + p + ", 1)", x.way(p, p, 1));
        }
        for (int one = 0; one < 8; one++) {
            for (int other = one + 1; other < 8; other++) {
                Check.yes("way(" + one + ", " + other + ", ..)", x.way(one, other, one + 2 * other));
            }
        }
        for (int one = 0; one < 8; one++) {
            int lot = x.buy(one, 0, 0, 7, 0, 0);
            for (int to = 0; to < 8; to++) {
                if (to != one) {
                    int weeks = Math.min(one, to) + 2 * Math.max(one, to);
                    Check.due("from " + one + " to " + to, x.lot(x.send(lot, to, 1), 5), weeks);
                }
            }
        }
    }

    private static void wayAlike() {
        Check.sentence("5: False: alike");
        FleetStores x = new FleetStores();
        for (int p = 0; p < 8; p++) {
            Check.no("way(" + p + ", " + p + ", 0)", x.way(p, p, 0));
            Check.no("way(" + p + ", " + p + ", 2)", x.way(p, p, 2));
        }
    }

    private static void wayLeastAndMost() {
        Check.sentence("5: WAY (0 .. 30 WEEKS)");
        FleetStores x = new FleetStores();
        x.buy(0, 0, 0, 10, 0, 0);
        Check.yes("way(0, 1, 0)", x.way(0, 1, 0));
        Check.yes("way(0, 2, 30)", x.way(0, 2, 30));
        Check.due("0", x.lot(x.send(0, 1, 1), 5), 0);
        Check.due("30", x.lot(x.send(0, 2, 1), 5), 30);
    }

    private static void wayEitherWay() {
        Check.sentence("5: either way alike");
        FleetStores x = new FleetStores();
        x.buy(2, 0, 0, 10, 0, 0);
        x.buy(5, 0, 0, 10, 0, 0);
        x.way(2, 5, 9);
        Check.due("there", x.lot(x.send(0, 5, 1), 5), 9);
        Check.due("back", x.lot(x.send(1, 2, 1), 5), 9);
        x.way(5, 2, 4);
        Check.due("there, told the other way", x.lot(x.send(0, 5, 1), 5), 4);
        Check.due("back, told the other way", x.lot(x.send(1, 2, 1), 5), 4);
    }

    private static void wayRefused() {
        Check.sentence("5: False: out of bounds");
        FleetStores x = new FleetStores();
        x.way(0, 1, 7);
        for (int weeks : new int[] {MIN, -1, 31, MAX}) {
            Check.no("way(0, 1, " + weeks + ")", x.way(0, 1, weeks));
        }
        x.buy(0, 0, 0, 10, 0, 0);
        x.buy(1, 0, 0, 10, 0, 0);
        Check.due("there as it was", x.lot(x.send(0, 1, 1), 5), 7);
        Check.due("back as it was", x.lot(x.send(1, 0, 1), 5), 7);
    }

    private static void lagOfPlaces() {
        Check.sentence("6: PLACES 0 .. 7");
        FleetStores x = new FleetStores();
        for (int p : NO_PLACES) {
            Check.no("lag(" + p + ", 1)", x.lag(p, 1));
        }
        for (int p = 0; p < 8; p++) {
            Check.yes("lag(" + p + ", ..)", x.lag(p, p));
            x.buy(p, 0, 0, 1, 0, 0);
        }
        Check.weeks(x, 8);
        for (int p = 0; p < 8; p++) {
            Check.due("each has its own: " + p, x.known(p, 0, p), 0);
            Check.due("a week later", x.known(p, 0, p + 1), 1);
        }
    }

    private static void lagLeastAndMost() {
        Check.sentence("6: LAG (0 .. 30)");
        FleetStores x = new FleetStores();
        Check.yes("lag(3, 30)", x.lag(3, 30));
        x.buy(3, 0, 0, 4, 0, 0);
        Check.weeks(x, 31);
        Check.due("in week 29", x.known(3, 0, 29), -1);
        Check.due("in week 30", x.known(3, 0, 30), 0);
        Check.due("in week 31", x.known(3, 0, 31), 4);
        Check.yes("lag(3, 0)", x.lag(3, 0));
        Check.due("in week 0", x.known(3, 0, 0), 0);
        Check.due("in week 1", x.known(3, 0, 1), 4);
    }

    private static void lagRefused() {
        Check.sentence("6: False: out of bounds");
        FleetStores x = new FleetStores();
        x.lag(3, 1);
        for (int weeks : new int[] {MIN, -1, 31, MAX}) {
            Check.no("lag(3, " + weeks + ")", x.lag(3, weeks));
        }
        Check.due("it is as it was", x.known(3, 0, 0), -1);
        x.week();
        Check.due("a week later", x.known(3, 0, 1), 0);
    }

    private static void lagAsToldNow() {
        Check.sentence("6: LAG (as it is told now)");
        FleetStores x = new FleetStores();
        x.buy(3, 0, 0, 4, 0, 0);
        Check.weeks(x, 2);
        x.lag(3, 2);
        Check.due("longer: in week 1", x.known(3, 0, 1), -1);
        Check.due("longer: in week 2", x.known(3, 0, 2), 0);
        x.lag(3, 1);
        Check.due("shorter: in week 1", x.known(3, 0, 1), 0);
        Check.due("shorter: in week 2", x.known(3, 0, 2), 4);
    }
}
