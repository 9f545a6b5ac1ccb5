/** Promises 14 and 15, a sentence at a time: letters, and how long a place will last. */
public final class EdgesOfLettersTest {
    private static final int MIN = Integer.MIN_VALUE;
    private static final int MAX = Integer.MAX_VALUE;

    public static void main(String[] args) {
        knownNoSuch();
        knownWeeks();
        knownNothingYet();
        knownAsTheWeekBegan();
        knownOfPlaceNought();
        knownInTheLastWeek();
        lastsNoSuch();
        lastsNobody();
        lastsNotThisWeek();
        lastsAtMost();
        lastsOfAnyKind();
        lastsInARow();
        lastsWithOpen();
        lastsWithWhatComes();
        lastsWithALongWay();
        lastsWithWayNought();
        lastsSpoiling();
        lastsSpoilingAtSea();
        lastsByAges();
        lastsOldestFirst();
        lastsOfOnePlace();
        lastsAsToldNow();
        lastsTouchesNothing();
        lastsWhenFull();
        Check.end();
    }

    private static void knownNoSuch() {
        Check.sentence("14: NONE: no such");
        FleetStores x = new FleetStores();
        x.week();
        for (int p : new int[] {MIN, -1, 8, MAX}) {
            Check.due("place " + p, x.known(p, 0, 0), -1);
        }
        for (int k : new int[] {MIN, -1, 4, MAX}) {
            Check.due("kind " + k, x.known(1, k, 0), -1);
        }
        Check.due("the last of each", x.known(7, 3, 1), 0);
    }

    private static void knownWeeks() {
        Check.sentence("14: in a WEEK q (0 .. NOW)");
        FleetStores x = new FleetStores();
        Check.due("week 1 as it is week 0", x.known(1, 0, 1), -1);
        Check.weeks(x, 2);
        for (int q : new int[] {MIN, MIN + 30, -1, 3, 200, MAX}) {
            Check.due("week " + q, x.known(1, 0, q), -1);
        }
        x.lag(1, 2);
        Check.due("a week to come, though its letter is there", x.known(1, 0, 3), -1);
        Check.due("now", x.known(1, 0, 2), 0);
    }

    private static void knownNothingYet() {
        Check.sentence("14: NONE: nothing yet");
        for (int lag : new int[] {1, 2, 30}) {
            FleetStores x = new FleetStores();
            x.lag(2, lag);
            x.buy(2, 0, 0, 6, 0, 0);
            Check.weeks(x, lag + 1);
            Check.due("in week 0", x.known(2, 0, 0), -1);
            Check.due("the week ahead of the first letter", x.known(2, 0, lag - 1), -1);
            Check.due("the first letter", x.known(2, 0, lag), 0);
            Check.due("the second", x.known(2, 0, lag + 1), 6);
        }
    }

    private static void knownAsTheWeekBegan() {
        Check.sentence("14: what its STOCK was as WEEK q less the LAG of p began");
        FleetStores x = new FleetStores();
        x.lag(2, 1);
        Check.weeks(x, 2);
        x.buy(2, 0, 3, 6, 0, 0);
        Check.due("purchases of this week not", x.known(2, 3, 2), 0);
        x.week();
        Check.due("nor those of the week that the letter tells", x.known(2, 3, 3), 0);
        x.week();
        Check.due("a week later", x.known(2, 3, 4), 6);
    }

    private static void knownOfPlaceNought() {
        Check.sentence("14: of a PLACE (0 too has a LAG)");
        FleetStores x = new FleetStores();
        x.buy(0, 0, 0, 6, 0, 0);
        x.lag(0, 2);
        Check.weeks(x, 3);
        Check.due("week 1", x.known(0, 0, 1), -1);
        Check.due("week 2", x.known(0, 0, 2), 0);
        Check.due("week 3", x.known(0, 0, 3), 6);
    }

    private static void knownInTheLastWeek() {
        Check.sentence("14: in a WEEK q (0 .. NOW) (200 at most)");
        FleetStores x = new FleetStores();
        Check.weeks(x, 199);
        x.buy(0, 0, 0, 6, 0, 0);
        x.week();
        Check.due("week 200", x.known(0, 0, 200), 6);
        x.lag(0, 30);
        Check.due("with a lag", x.known(0, 0, 200), 0);
        Check.due("week 201", x.known(0, 0, 201), -1);
    }

    private static void lastsNoSuch() {
        Check.sentence("15: NONE: no such PLACE");
        FleetStores x = new FleetStores();
        for (int p : new int[] {MIN, -1, 8, MAX}) {
            Check.due("lasts(" + p + ")", x.lasts(p), -1);
        }
        Check.due("lasts(0)", x.lasts(0), 60);
        Check.due("lasts(7)", x.lasts(7), 60);
    }

    private static void lastsNobody() {
        Check.sentence("15: 60 at most (without men)");
        FleetStores x = new FleetStores();
        Check.due("nothing there", x.lasts(2), 60);
        x.buy(2, 0, 0, 1, 0, 0);
        Check.due("one cask there", x.lasts(2), 60);
    }

    private static void lastsNotThisWeek() {
        Check.sentence("15: from this one on (none)");
        FleetStores x = new FleetStores();
        x.men(2, 1);
        Check.due("nothing there", x.lasts(2), 0);
        for (int k = 0; k < 4; k++) {
            x.rations(k, 6);
        }
        Check.buyAllKinds(x, 2, 1);
        Check.due("one ration too few", x.lasts(2), 0);
        for (int k = 0; k < 4; k++) {
            x.rations(k, 7);
        }
        Check.due("just enough", x.lasts(2), 1);
    }

    private static void lastsAtMost() {
        Check.sentence("15: 60 at most");
        FleetStores x = new FleetStores();
        x.men(2, 1);
        for (int k = 0; k < 4; k++) {
            x.rations(k, 7);
        }
        Check.buyAllKinds(x, 2, 58);
        Check.due("58", x.lasts(2), 58);
        Check.buyAllKinds(x, 2, 1);
        Check.due("59", x.lasts(2), 59);
        Check.buyAllKinds(x, 2, 1);
        Check.due("60", x.lasts(2), 60);
        Check.buyAllKinds(x, 2, 1);
        Check.due("61", x.lasts(2), 60);
        x.week();
        Check.due("a week later", x.lasts(2), 60);
        x.week();
        Check.due("and another", x.lasts(2), 59);
    }

    private static void lastsOfAnyKind() {
        Check.sentence("15: without its being SHORT of any KIND");
        for (int least = 0; least < 4; least++) {
            FleetStores x = new FleetStores();
            x.men(2, 50);
            for (int k = 0; k < 4; k++) {
                x.buy(2, 0, k, k == least ? 14 : 70, 0, 0);
            }
            Check.due("kind " + least + " is the least", x.lasts(2), 2);
        }
    }

    private static void lastsInARow() {
        Check.sentence("15: how many WEEKS in a row");
        FleetStores x = new FleetStores();
        x.men(2, 50);
        x.way(1, 2, 2);
        Check.buyAllKinds(x, 2, 7);
        Check.buyAllKinds(x, 1, 700);
        for (int k = 0; k < 4; k++) {
            x.send(4 + k, 2, 700);
        }
        Check.due("week 1 is a gap", x.lasts(2), 1);
        Check.buyAllKinds(x, 2, 6);
        Check.due("a gap of 50 rations", x.lasts(2), 1);
        Check.buyAllKinds(x, 2, 1);
        Check.due("no gap any more", x.lasts(2), 60);
    }

    private static void lastsWithOpen() {
        Check.sentence("15: with what is there (OPEN too)");
        FleetStores x = new FleetStores();
        x.men(2, 1);
        for (int k = 0; k < 4; k++) {
            x.rations(k, 21);
        }
        Check.buyAllKinds(x, 2, 1);
        x.week();
        Check.due("14 open", x.lasts(2), 2);
        x.week();
        Check.due("7 open", x.lasts(2), 1);
        x.week();
        Check.due("none open", x.lasts(2), 0);
    }

    private static FleetStores aWeekThereAndOneComing(int way) {
        FleetStores x = new FleetStores();
        x.men(2, 50);
        x.way(1, 2, way);
        Check.buyAllKinds(x, 1, 7);
        for (int k = 0; k < 4; k++) {
            x.send(k, 2, 7);
        }
        return x;
    }

    private static void lastsWithWhatComes() {
        Check.sentence("15: with what is on its WAY there");
        FleetStores x = aWeekThereAndOneComing(1);
        Check.due("a week late", x.lasts(2), 0);
        Check.buyAllKinds(x, 2, 7);
        Check.due("just in time", x.lasts(2), 2);
        x.week();
        Check.due("it comes this week", x.lasts(2), 1);
        x.week();
        Check.due("it is eaten", x.lasts(2), 0);
    }

    private static void lastsWithALongWay() {
        Check.sentence("15: with what is on its WAY there (30 WEEKS)");
        FleetStores x = aWeekThereAndOneComing(30);
        Check.buyAllKinds(x, 2, 7 * 29);
        Check.due("one week too few", x.lasts(2), 29);
        Check.buyAllKinds(x, 2, 7);
        Check.due("30 weeks and the one that comes", x.lasts(2), 31);
    }

    private static void lastsWithWayNought() {
        Check.sentence("15: with what is on its WAY there (0 WEEKS)");
        FleetStores x = aWeekThereAndOneComing(0);
        Check.due("it is there at the end of this week", x.lasts(2), 1);
        Check.due("nothing is where it was bought, nor anybody", x.lasts(1), 60);
    }

    private static void lastsSpoiling() {
        Check.sentence("15: as told in 1. (SPOILING)");
        FleetStores x = new FleetStores();
        x.men(2, 50);
        Check.buyAllKinds(x, 2, 21);
        Check.due("without", x.lasts(2), 3);
        x.spoils(1, 0, 47);
        Check.due("none of 21, cut", x.lasts(2), 3);
        x.spoils(1, 0, 48);
        Check.due("one of 21", x.lasts(2), 2);
        x.spoils(1, 0, 1000);
        Check.due("all", x.lasts(2), 0);
    }

    private static void lastsSpoilingAtSea() {
        Check.sentence("15: as told in 1. (double at sea, till it comes)");
        FleetStores x = aWeekThereAndOneComing(1);
        Check.buyAllKinds(x, 2, 7);
        x.spoils(0, 0, 71);
        Check.due("none of 7 there, none at sea: 0.994", x.lasts(2), 2);
        x.spoils(0, 0, 72);
        Check.due("none of 7 there, one at sea: 1.008", x.lasts(2), 1);
    }

    private static void lastsByAges() {
        Check.sentence("15: as told in 1. (AGES to come)");
        for (int age = 0; age < 10; age++) {
            FleetStores x = new FleetStores();
            Check.weeks(x, 2);
            x.men(2, 50);
            x.spoils(3, age, 1000);
            Check.buyAllKinds(x, 2, 5000);
            Check.due("till age " + age, x.lasts(2), 4 * age);
        }
    }

    private static void lastsOldestFirst() {
        Check.sentence("15: as told in 1. (made first, eaten first)");
        FleetStores x = new FleetStores();
        x.way(1, 2, 0);
        Check.buyAllKinds(x, 1, 28);
        Check.weeks(x, 2);
        Check.buyAllKinds(x, 2, 14);
        for (int k = 0; k < 4; k++) {
            x.send(k, 2, 14);
        }
        x.men(2, 50);
        // The older ones are eaten in weeks 2 and 3: none of them is left to spoil in week 4.
        x.spoils(2, 1, 1000);
        Check.due("weeks 2 and 3, then 4 and 5 of the younger", x.lasts(2), 4);
    }

    private static void lastsOfOnePlace() {
        Check.sentence("15: of a PLACE (what is elsewhere is not its own)");
        FleetStores x = new FleetStores();
        x.men(2, 50);
        x.men(3, 50);
        Check.buyAllKinds(x, 3, 14);
        Check.due("place 2", x.lasts(2), 0);
        Check.due("place 3", x.lasts(3), 2);
        x.send(0, 2, 7);
        Check.due("what goes away is gone", x.lasts(3), 1);
    }

    private static void lastsAsToldNow() {
        Check.sentence("15: nothing more told");
        FleetStores x = new FleetStores();
        x.men(2, 50);
        Check.buyAllKinds(x, 2, 14);
        Check.due("50 men", x.lasts(2), 2);
        x.men(2, 25);
        Check.due("25 men", x.lasts(2), 4);
        x.men(2, 1000);
        Check.due("1,000 men", x.lasts(2), 0);
    }

    private static void lastsTouchesNothing() {
        Check.sentence("15: would end (they do not)");
        FleetStores x = aWeekThereAndOneComing(1);
        x.spoils(0, 0, 300);
        Check.buyAllKinds(x, 2, 8);
        x.week();
        for (int again = 0; again < 3; again++) {
            Check.due("lasts", x.lasts(2), 0);
            Check.due("lasts elsewhere", x.lasts(1), 60);
            Check.due("now", x.count(0), 1);
            Check.due("casks: 6 - 6 and 7 - 4, three kinds of 8 - 7 and 7", x.count(3), 3 + 3 * 8);
            Check.due("condemned", x.count(4), 6);
            Check.due("opened", x.count(5), 27);
            Check.due("open", x.open(2, 0), 0);
            Check.due("lacks", x.lacks(2, 0), 50);
            Check.due("on its way", x.lot(4, 5), 1);
        }
    }

    private static void lastsWhenFull() {
        Check.sentence("15: LASTS (with 300 LOTS, in WEEK 200)");
        FleetStores x = new FleetStores();
        for (int i = 0; i < 300; i++) {
            x.buy(2, 0, i % 4, 5000, 0, 0);
        }
        Check.weeks(x, 200);
        x.men(2, 1000);
        Check.due("375,000 casks of a kind", x.lasts(2), 60);
        for (int k = 0; k < 4; k++) {
            x.rations(k, 1);
        }
        Check.due("375,000 rations of a kind: 53 weeks", x.lasts(2), 53);
    }
}
