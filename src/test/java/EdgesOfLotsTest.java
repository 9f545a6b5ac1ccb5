/** Promises 7, 8, 10 and 23, a sentence at a time: the bounds of lots, bought and sent. */
public final class EdgesOfLotsTest {
    private static final int MIN = Integer.MIN_VALUE;
    private static final int MAX = Integer.MAX_VALUE;

    public static void main(String[] args) {
        buyOfPlaces();
        buyOfMakers();
        buyOfKinds();
        buyCasks();
        buyGrade();
        buyPrice();
        buyNumbers();
        buyMadeThisWeek();
        buyFull();
        sendNoSuchLot();
        sendOnItsWay();
        sendNotSoMany();
        sendNothingLeft();
        sendNoOtherPlace();
        sendFull();
        sendIsALotOfItsOwn();
        sendMark();
        sendComing();
        sendWayNought();
        sendAsTheWayWas();
        sendInTheLastWeek();
        lotTells();
        lotNoneForOthers();
        condemnedWherever();
        condemnedOfOthers();
        Check.end();
    }

    private static void buyOfPlaces() {
        Check.sentence("7: PLACES 0 .. 7; NONE: out of bounds");
        FleetStores x = new FleetStores();
        for (int p : new int[] {MIN, -1, 8, MAX}) {
            Check.due("place " + p, x.buy(p, 0, 0, 1, 0, 0), -1);
        }
        for (int p = 0; p < 8; p++) {
            Check.due("place " + p, x.lot(x.buy(p, 0, 0, 1, 0, 0), 4), p);
        }
        Check.due("lots", x.count(1), 8);
    }

    private static void buyOfMakers() {
        Check.sentence("7: MAKERS 0 .. 9; NONE: out of bounds");
        FleetStores x = new FleetStores();
        for (int maker : new int[] {MIN, -1, 10, MAX}) {
            Check.due("maker " + maker, x.buy(0, maker, 0, 1, 0, 0), -1);
        }
        for (int maker = 0; maker < 10; maker++) {
            Check.due("maker " + maker, x.lot(x.buy(0, maker, 0, 1, 0, 0), 0), maker);
        }
        Check.due("lots", x.count(1), 10);
    }

    private static void buyOfKinds() {
        Check.sentence("7: KINDS 0 .. 3; NONE: out of bounds");
        FleetStores x = new FleetStores();
        for (int k : new int[] {MIN, -1, 4, MAX}) {
            Check.due("kind " + k, x.buy(1, 0, k, 1, 0, 0), -1);
        }
        for (int k = 0; k < 4; k++) {
            Check.due("kind " + k, x.lot(x.buy(1, 0, k, 1, 0, 0), 1), k);
        }
        Check.due("lots", x.count(1), 4);
    }

    private static void buyCasks() {
        Check.sentence("7: casks (1 .. 5,000 as it is bought); NONE: out of bounds");
        FleetStores x = new FleetStores();
        for (int casks : new int[] {MIN, -1, 0, 5001, MAX}) {
            Check.due("casks " + casks, x.buy(0, 0, 0, casks, 0, 0), -1);
        }
        Check.due("none bought", x.count(2), 0);
        Check.due("one", x.lot(x.buy(0, 0, 0, 1, 0, 0), 3), 1);
        Check.due("5,000", x.lot(x.buy(0, 0, 0, 5000, 0, 0), 3), 5000);
        Check.due("bought", x.count(2), 5001);
    }

    private static void buyGrade() {
        Check.sentence("7: GRADE (0 .. 7); NONE: out of bounds");
        FleetStores x = new FleetStores();
        for (int grade : new int[] {MIN, -1, 8, MAX}) {
            Check.due("grade " + grade, x.buy(0, 0, 0, 1, grade, 0), -1);
        }
        for (int grade = 0; grade < 8; grade++) {
            Check.due("grade " + grade, x.lot(x.buy(0, 0, 0, 1, grade, 0), 6), grade);
        }
    }

    private static void buyPrice() {
        Check.sentence("7: a price (0 .. 100,000); NONE: out of bounds");
        FleetStores x = new FleetStores();
        for (int price : new int[] {MIN, -1, 100001, MAX}) {
            Check.due("price " + price, x.buy(0, 0, 0, 1, 0, price), -1);
        }
        x.buy(0, 0, 0, 1, 0, 0);
        x.buy(0, 0, 0, 1, 0, 100000);
        x.draw(0, 0, 0);
        x.draw(1, 0, 0);
        Check.due("for nothing", x.due(0), 0);
        Check.due("for 100,000", x.due(1), 100000);
    }

    private static void buyNumbers() {
        Check.sentence("7: numbered as they come");
        FleetStores x = new FleetStores();
        Check.due("the first", x.buy(0, 0, 0, 9, 0, 0), 0);
        Check.due("one refused", x.buy(0, 0, 0, 0, 0, 0), -1);
        Check.due("the second", x.buy(0, 0, 0, 9, 0, 0), 1);
        Check.due("one sent", x.send(0, 1, 9), 2);
        Check.due("one refused", x.send(0, 1, 1), -1);
        Check.due("the fourth", x.buy(0, 0, 0, 9, 0, 0), 3);
    }

    private static void buyMadeThisWeek() {
        Check.sentence("7: made this WEEK");
        FleetStores x = new FleetStores();
        Check.due("in week 0", x.lot(x.buy(0, 0, 0, 1, 0, 0), 2), 0);
        Check.weeks(x, 200);
        Check.due("in week 200", x.lot(x.buy(0, 0, 0, 1, 0, 0), 2), 200);
        Check.due("there at once", x.lot(1, 5), -1);
    }

    private static void buyFull() {
        Check.sentence("7: NONE: there are 300");
        FleetStores x = new FleetStores();
        for (int i = 0; i < 299; i++) {
            x.buy(0, 0, 0, 1, 0, 0);
        }
        Check.due("the 300th", x.buy(7, 9, 3, 2, 7, 5), 299);
        Check.due("one more", x.buy(0, 0, 0, 1, 0, 0), -1);
        Check.due("one more at week 1", x.buy(0, 0, 0, 1, 0, x.week()), -1);
        Check.due("lots", x.count(1), 300);
        Check.due("casks bought", x.count(2), 301);
        Check.due("the last one is whole", x.lot(299, 0), 9);
        Check.due("no lot 300", x.lot(300, 0), -1);
        Check.due("the last one can be drawn", x.draw(299, 2, 1), 2);
        Check.due("stock", x.stock(0, 0), 299);
    }

    private static void sendNoSuchLot() {
        Check.sentence("8: NONE: no such LOT");
        FleetStores x = new FleetStores();
        Check.due("none at all", x.send(0, 1, 1), -1);
        x.buy(0, 0, 0, 5, 0, 0);
        for (int lot : new int[] {MIN, -1, 1, 299, 300, MAX}) {
            Check.due("lot " + lot, x.send(lot, 1, 1), -1);
        }
        Check.due("lots", x.count(1), 1);
    }

    private static void sendOnItsWay() {
        Check.sentence("8: NONE: it is on its WAY");
        FleetStores x = new FleetStores();
        x.way(0, 1, 0);
        x.buy(0, 0, 0, 5, 0, 0);
        x.send(0, 1, 2);
        x.send(0, 2, 2);
        Check.due("with way 0", x.send(1, 2, 1), -1);
        Check.due("back from its way", x.send(1, 0, 1), -1);
        Check.due("with way 2", x.send(2, 1, 1), -1);
        x.week();
        Check.due("there", x.send(1, 2, 1), 3);
        x.week();
        Check.due("in week 2 it comes, and is still on its way", x.send(2, 1, 1), -1);
        x.week();
        Check.due("there in week 3", x.send(2, 1, 1), 4);
        Check.due("casks", x.count(3), 5);
    }

    private static void sendNotSoMany() {
        Check.sentence("8: NONE: not so many (1 or more)");
        FleetStores x = new FleetStores();
        x.buy(0, 0, 0, 5, 0, 0);
        for (int casks : new int[] {MIN, -5, -1, 0, 6, MAX}) {
            Check.due("casks " + casks, x.send(0, 1, casks), -1);
        }
        Check.due("all stay", x.stock(0, 0), 5);
        Check.due("one", x.send(0, 1, 1), 1);
        Check.due("five of four", x.send(0, 1, 5), -1);
        Check.due("all four", x.send(0, 1, 4), 2);
        Check.due("none stays", x.stock(0, 0), 0);
    }

    private static void sendNothingLeft() {
        Check.sentence("8: NONE: not so many (of an empty LOT)");
        FleetStores x = new FleetStores();
        x.buy(0, 0, 0, 5, 0, 0);
        x.send(0, 1, 5);
        Check.due("one", x.send(0, 1, 1), -1);
        Check.due("none", x.send(0, 1, 0), -1);
        Check.due("it is still a lot", x.lot(0, 3), 0);
        Check.due("at its place", x.lot(0, 4), 0);
    }

    private static void sendNoOtherPlace() {
        Check.sentence("8: NONE: no other PLACE");
        FleetStores x = new FleetStores();
        x.buy(3, 0, 0, 50, 0, 0);
        for (int to : new int[] {MIN, -1, 3, 8, MAX}) {
            Check.due("to " + to, x.send(0, to, 1), -1);
        }
        for (int to = 0; to < 8; to++) {
            if (to != 3) {
                Check.due("to " + to, x.lot(x.send(0, to, 1), 4), to);
            }
        }
        Check.due("what stays", x.lot(0, 3), 43);
    }

    private static void sendFull() {
        Check.sentence("8: NONE: there are 300");
        FleetStores x = new FleetStores();
        x.buy(0, 0, 0, 5000, 0, 0);
        for (int i = 1; i < 299; i++) {
            x.send(0, 1, 1);
        }
        Check.due("the 300th", x.send(0, 2, 7), 299);
        Check.due("one more", x.send(0, 1, 1), -1);
        Check.due("none left its place", x.lot(0, 3), 5000 - 298 - 7);
        Check.due("lots", x.count(1), 300);
        Check.due("casks", x.count(3), 5000);
        Check.weeks(x, 3);
        Check.due("all have come", x.stock(1, 0), 298);
        Check.due("the last one too", x.stock(2, 0), 7);
    }

    private static void sendIsALotOfItsOwn() {
        Check.sentence("8: a LOT of its own with its MAKER, KIND, WEEK");
        FleetStores x = new FleetStores();
        x.week();
        x.buy(0, 6, 2, 10, 5, 100);
        Check.weeks(x, 3);
        x.send(0, 4, 3);
        Check.due("its maker", x.lot(1, 0), 6);
        Check.due("its kind", x.lot(1, 1), 2);
        Check.due("its week, not that of sending", x.lot(1, 2), 1);
        Check.due("its casks", x.lot(1, 3), 3);
        Check.due("those that stay", x.lot(0, 3), 7);
        Check.due("no casks were bought", x.count(2), 10);
        Check.due("none is lost", x.count(3), 10);
    }

    private static void sendMark() {
        Check.sentence("8: its MARK is that of the LOT bought");
        FleetStores x = new FleetStores();
        x.way(1, 2, 0);
        x.way(2, 3, 0);
        x.buy(0, 0, 0, 10, 0, 0);
        x.buy(1, 0, 0, 10, 0, 0);
        x.send(1, 2, 5);
        x.week();
        x.send(2, 3, 3);
        x.week();
        x.send(3, 1, 1);
        Check.due("of one bought", x.lot(1, 7), 1);
        Check.due("of one sent", x.lot(2, 7), 1);
        Check.due("of one sent on", x.lot(3, 7), 1);
        Check.due("of one sent back", x.lot(4, 7), 1);
    }

    private static void sendComing() {
        Check.sentence("8: come in a WEEK: NOW and the WAY");
        for (int way : new int[] {1, 2, 30}) {
            FleetStores x = new FleetStores();
            Check.weeks(x, 5);
            x.way(0, 1, way);
            x.buy(0, 0, 0, 10, 0, 0);
            x.send(0, 1, 10);
            Check.due("week of coming", x.lot(1, 5), 5 + way);
            Check.weeks(x, way);
            Check.due("not yet as that week begins", x.lot(1, 5), 5 + way);
            Check.due("no stock", x.stock(1, 0), 0);
            x.week();
            Check.due("behind its end", x.lot(1, 5), -1);
            Check.due("stock", x.stock(1, 0), 10);
        }
    }

    private static void sendWayNought() {
        Check.sentence("8: with WAY 0 they are there at the end of this WEEK");
        FleetStores x = new FleetStores();
        x.way(0, 1, 0);
        x.buy(0, 0, 0, 10, 0, 0);
        x.send(0, 1, 10);
        Check.due("they come this week", x.lot(1, 5), 0);
        Check.due("not at once", x.stock(1, 0), 0);
        x.week();
        Check.due("there", x.lot(1, 5), -1);
        Check.due("stock", x.stock(1, 0), 10);
    }

    private static void sendAsTheWayWas() {
        Check.sentence("8: NOW and the WAY (as they were when it was sent)");
        FleetStores x = new FleetStores();
        x.buy(0, 0, 0, 10, 0, 0);
        x.send(0, 1, 1);
        x.way(0, 1, 30);
        Check.due("a longer way told later", x.lot(1, 5), 2);
        x.send(0, 1, 1);
        x.way(0, 1, 0);
        Check.due("a shorter way told later", x.lot(2, 5), 30);
        Check.weeks(x, 3);
        Check.due("the first is there, the other is not", x.stock(1, 0), 1);
    }

    private static void sendInTheLastWeek() {
        Check.sentence("8: NOW is 200 at most (what comes later never does)");
        FleetStores x = new FleetStores();
        Check.weeks(x, 200);
        x.way(0, 1, 0);
        x.way(0, 2, 30);
        x.buy(0, 0, 0, 10, 0, 0);
        Check.due("this week", x.lot(x.send(0, 1, 1), 5), 200);
        Check.due("30 weeks on", x.lot(x.send(0, 2, 1), 5), 230);
        Check.due("no week ends", x.week(), -1);
        Check.due("on its way for good", x.lot(1, 5), 200);
        Check.due("so it can't be sent", x.send(1, 0, 1), -1);
    }

    private static void lotTells() {
        Check.sentence("10: 0 MAKER .. 7 its MARK");
        FleetStores x = new FleetStores();
        x.buy(0, 0, 0, 1, 0, 0);
        x.week();
        x.buy(7, 9, 3, 5000, 7, 100000);
        x.way(7, 6, 30);
        x.send(1, 6, 4999);
        int[][] want = {{0, 0, 0, 1, 0, -1, 0, 0}, {9, 3, 1, 1, 7, -1, 7, 1}, {9, 3, 1, 4999, 6, 31, 7, 1}};
        for (int lot = 0; lot < 3; lot++) {
            for (int what = 0; what < 8; what++) {
                Check.due("lot(" + lot + ", " + what + ")", x.lot(lot, what), want[lot][what]);
            }
        }
    }

    private static void lotNoneForOthers() {
        Check.sentence("10: NONE for others");
        FleetStores x = new FleetStores();
        Check.due("of no lots at all", x.lot(0, 0), -1);
        x.buy(1, 1, 1, 1, 1, 1);
        for (int what : new int[] {MIN, -1, 8, MAX}) {
            Check.due("lot(0, " + what + ")", x.lot(0, what), -1);
        }
        for (int lot : new int[] {MIN, -1, 1, 299, 300, MAX}) {
            for (int what = -1; what <= 8; what++) {
                Check.due("lot(" + lot + ", " + what + ")", x.lot(lot, what), -1);
            }
        }
    }

    private static void condemnedWherever() {
        Check.sentence("23: Casks CONDEMNED of a MARK, wherever they were");
        FleetStores x = new FleetStores();
        x.spoils(0, 0, 100);
        x.way(0, 1, 0);
        x.buy(0, 0, 0, 1000, 0, 0);
        x.buy(0, 0, 0, 100, 0, 0);
        x.send(0, 1, 200);
        x.send(0, 2, 300);
        x.week();
        Check.due("50 here, 20 there, 60 at sea", x.condemned(0), 130);
        Check.due("of another mark", x.condemned(1), 10);
        Check.due("in all", x.count(4), 140);
    }

    private static void condemnedOfOthers() {
        Check.sentence("23: 0 for others");
        FleetStores x = new FleetStores();
        Check.due("of no lots at all", x.condemned(0), 0);
        x.spoils(0, 0, 1000);
        x.buy(0, 0, 0, 10, 0, 0);
        x.send(0, 1, 5);
        x.week();
        Check.due("the mark", x.condemned(0), 10);
        for (int mark : new int[] {MIN, -1, 1, 2, 299, 300, MAX}) {
            Check.due("condemned(" + mark + ")", x.condemned(mark), 0);
        }
    }
}
