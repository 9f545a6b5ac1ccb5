/** Promises 7, 8 and 10: buying, sending, and what is told of a lot. */
public final class LotsTest {
    public static void main(String[] args) {
        buyBounds();
        sendBounds();
        tellsAll();
        fullByBuying();
        fullBySending();
        Check.end();
    }

    private static void buyBounds() {
        FleetStores x = new FleetStores();
        Check.due("place -1", x.buy(-1, 0, 0, 1, 0, 0), -1);
        Check.due("place 8", x.buy(8, 0, 0, 1, 0, 0), -1);
        Check.due("maker -1", x.buy(0, -1, 0, 1, 0, 0), -1);
        Check.due("maker 10", x.buy(0, 10, 0, 1, 0, 0), -1);
        Check.due("kind -1", x.buy(0, 0, -1, 1, 0, 0), -1);
        Check.due("kind 4", x.buy(0, 0, 4, 1, 0, 0), -1);
        Check.due("casks 0", x.buy(0, 0, 0, 0, 0, 0), -1);
        Check.due("casks 5001", x.buy(0, 0, 0, 5001, 0, 0), -1);
        Check.due("grade -1", x.buy(0, 0, 0, 1, -1, 0), -1);
        Check.due("grade 8", x.buy(0, 0, 0, 1, 8, 0), -1);
        Check.due("price -1", x.buy(0, 0, 0, 1, 0, -1), -1);
        Check.due("price 100001", x.buy(0, 0, 0, 1, 0, 100001), -1);
        Check.due("nothing was bought", x.count(1) + x.count(2) + x.count(3), 0);
        Check.due("the least", x.buy(0, 0, 0, 1, 0, 0), 0);
        Check.due("the most", x.buy(7, 9, 3, 5000, 7, 100000), 1);
        Check.due("lots", x.count(1), 2);
        Check.due("casks", x.count(2), 5001);
    }

    private static void sendBounds() {
        FleetStores x = new FleetStores();
        Check.due("no lot", x.send(0, 1, 1), -1);
        x.buy(3, 0, 0, 10, 0, 0);
        Check.due("lot -1", x.send(-1, 1, 1), -1);
        Check.due("lot 1", x.send(1, 1, 1), -1);
        Check.due("to 8", x.send(0, 8, 1), -1);
        Check.due("to -1", x.send(0, -1, 1), -1);
        Check.due("to its own place", x.send(0, 3, 1), -1);
        Check.due("casks 0", x.send(0, 1, 0), -1);
        Check.due("casks -1", x.send(0, 1, -1), -1);
        Check.due("casks 11", x.send(0, 1, 11), -1);
        Check.due("all of them stay", x.lot(0, 3), 10);
        Check.due("all are sent", x.send(0, 1, 10), 1);
        Check.due("none is left", x.send(0, 1, 1), -1);
        Check.due("the empty lot is still one", x.lot(0, 3), 0);
        Check.due("not while it is on its way", x.send(1, 2, 1), -1);
        Check.weeks(x, 2);
        Check.due("still on its way in week 2", x.send(1, 2, 1), -1);
        x.week();
        Check.due("there behind the end of week 2", x.send(1, 2, 1), 2);
        Check.due("back to where it was bought", x.send(1, 3, 9), 3);
    }

    private static void tellsAll() {
        FleetStores x = new FleetStores();
        Check.weeks(x, 5);
        x.buy(4, 8, 2, 30, 6, 77);
        int[] bought = {8, 2, 5, 30, 4, -1, 6, 0};
        tells(x, 0, bought);
        x.week();
        x.way(4, 1, 3);
        x.send(0, 1, 11);
        int[] left = {8, 2, 5, 19, 4, -1, 6, 0};
        int[] sent = {8, 2, 5, 11, 1, 9, 6, 0};
        tells(x, 0, left);
        tells(x, 1, sent);
        Check.weeks(x, 4);
        sent[5] = -1;
        tells(x, 1, sent);
        x.send(1, 6, 2);
        int[] again = {8, 2, 5, 2, 6, 12, 6, 0};
        tells(x, 2, again);
        x.buy(4, 7, 1, 1, 0, 0);
        Check.due("a lot bought later is its own mark", x.lot(3, 7), 3);
        Check.due("what 8", x.lot(0, 8), -1);
        Check.due("what -1", x.lot(0, -1), -1);
        Check.due("lot 4", x.lot(4, 0), -1);
        Check.due("lot -1", x.lot(-1, 0), -1);
        Check.due("lot MAX", x.lot(Integer.MAX_VALUE, 0), -1);
    }

    private static void tells(FleetStores x, int lot, int[] all) {
        for (int what = 0; what < 8; what++) {
            Check.due("lot(" + lot + ", " + what + ")", x.lot(lot, what), all[what]);
        }
    }

    private static void fullByBuying() {
        FleetStores x = new FleetStores();
        for (int i = 0; i < 300; i++) {
            Check.due("buy " + i, x.buy(0, 0, 0, 2, 0, 0), i);
        }
        Check.due("a 301st bought", x.buy(0, 0, 0, 2, 0, 0), -1);
        Check.due("a 301st sent", x.send(0, 1, 1), -1);
        Check.due("lots", x.count(1), 300);
        Check.due("casks bought", x.count(2), 600);
        Check.due("casks", x.count(3), 600);
        Check.due("lot 299", x.lot(299, 7), 299);
        Check.due("lot 300", x.lot(300, 7), -1);
    }

    private static void fullBySending() {
        FleetStores x = new FleetStores();
        x.buy(0, 0, 0, 500, 0, 0);
        for (int i = 1; i < 300; i++) {
            Check.due("send " + i, x.send(0, 1 + i % 7, 1), i);
        }
        Check.due("a 301st sent", x.send(0, 1, 1), -1);
        Check.due("a 301st bought", x.buy(0, 0, 0, 2, 0, 0), -1);
        Check.due("what stays", x.lot(0, 3), 201);
        Check.due("casks", x.count(3), 500);
    }
}
