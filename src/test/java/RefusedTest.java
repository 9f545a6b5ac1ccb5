import java.util.ArrayList;
import java.util.List;
import java.util.function.ToIntFunction;

/** Refused calls of each promise: their answers, and that all is as it was, now and later. */
public final class RefusedTest {
    private static final int MIN = Integer.MIN_VALUE;
    private static final int MAX = Integer.MAX_VALUE;
    private static final int WRONG = -1000000;
    private static final int[] NO_PLACES = {MIN, -1, 8, MAX};
    private static final int[] NO_KINDS = {MIN, -1, 4, MAX};
    private static final int[] NO_MAKERS = {MIN, -1, 10, MAX};

    private static final List<Integer> SEEN = Scene.seen(Scene.busy());
    private static final List<Integer> LATER = Scene.later(Scene.busy());
    private static final List<Integer> SENT = Scene.sent(Scene.busy());

    public static void main(String[] args) {
        sceneShowsWhatIsTold();
        settings();
        lots();
        weeks();
        tape();
        drawings();
        surveys();
        questions();
        Check.end();
    }

    private static boolean isAsItWas(ToIntFunction<FleetStores> call) {
        FleetStores x = Scene.busy();
        call.applyAsInt(x);
        boolean same = Scene.seen(x).equals(SEEN);
        x = Scene.busy();
        call.applyAsInt(x);
        same = Scene.later(x).equals(LATER) && same;
        x = Scene.busy();
        call.applyAsInt(x);
        return Scene.sent(x).equals(SENT) && same;
    }

    private static void refused(String call, int want, ToIntFunction<FleetStores> made) {
        Check.due(call, made.applyAsInt(Scene.busy()), want);
        Check.yes(call + ": all is as it was", isAsItWas(made));
    }

    /** The scene would show nothing if calls that are taken left no trace in it. */
    private static void sceneShowsWhatIsTold() {
        Check.sentence("calls that are not refused are seen");
        List<ToIntFunction<FleetStores>> taken = new ArrayList<>();
        for (int p = 0; p < 8; p++) {
            int place = p;
            taken.add(x -> x.men(place, 20) ? 1 : 0);
            taken.add(x -> x.lag(place, 3) ? 1 : 0);
            taken.add(x -> x.way(place, (place + 1) % 8, 1) ? 1 : 0);
            taken.add(x -> x.rations(place % 4, 90) ? 1 : 0);
            taken.add(x -> x.spoils(place % 4, 1, 222) ? 1 : 0);
            taken.add(x -> x.survey(place, 0, 1, 500));
        }
        taken.add(x -> x.buy(0, 0, 0, 1, 0, 0));
        taken.add(x -> x.send(0, 1, 1));
        taken.add(x -> x.week());
        taken.add(x -> x.draw(0, 0, 0));
        taken.add(x -> x.feed(1, 0, 0, 0, 0));
        taken.add(x -> x.end(3) ? 1 : 0);
        taken.add(x -> Check.contract(x, 0, "k=1:9") ? 1 : 0);
        for (int i = 0; i < taken.size(); i++) {
            Check.no("call " + i + ": all is as it was", isAsItWas(taken.get(i)));
        }
    }

    private static void settings() {
        Check.sentence("2 to 6: False: out of bounds, alike");
        for (int p : NO_PLACES) {
            refused("men(" + p + ", 9)", 0, x -> x.men(p, 9) ? 1 : 0);
            refused("way(" + p + ", 1, 9)", 0, x -> x.way(p, 1, 9) ? 1 : 0);
            refused("way(1, " + p + ", 9)", 0, x -> x.way(1, p, 9) ? 1 : 0);
            refused("lag(" + p + ", 9)", 0, x -> x.lag(p, 9) ? 1 : 0);
        }
        for (int k : NO_KINDS) {
            refused("rations(" + k + ", 9)", 0, x -> x.rations(k, 9) ? 1 : 0);
            refused("spoils(" + k + ", 0, 9)", 0, x -> x.spoils(k, 0, 9) ? 1 : 0);
        }
        for (int n : new int[] {MIN, -1, 1001, MAX}) {
            refused("men(1, " + n + ")", 0, x -> x.men(1, n) ? 1 : 0);
            refused("spoils(1, 0, " + n + ")", 0, x -> x.spoils(1, 0, n) ? 1 : 0);
        }
        for (int n : new int[] {MIN, -1, 0, 501, MAX}) {
            refused("rations(1, " + n + ")", 0, x -> x.rations(1, n) ? 1 : 0);
        }
        for (int n : new int[] {MIN, -1, 10, MAX}) {
            refused("spoils(1, " + n + ", 9)", 0, x -> x.spoils(1, n, 9) ? 1 : 0);
        }
        for (int n : new int[] {MIN, -1, 31, MAX}) {
            refused("way(1, 2, " + n + ")", 0, x -> x.way(1, 2, n) ? 1 : 0);
            refused("lag(1, " + n + ")", 0, x -> x.lag(1, n) ? 1 : 0);
        }
        refused("way(4, 4, 9)", 0, x -> x.way(4, 4, 9) ? 1 : 0);
    }

    private static void lots() {
        Check.sentence("7 and 8: NONE");
        for (int p : NO_PLACES) {
            refused("buy(" + p + ", ..)", -1, x -> x.buy(p, 0, 0, 1, 0, 0));
            refused("send(1, " + p + ", 1)", -1, x -> x.send(1, p, 1));
        }
        for (int maker : NO_MAKERS) {
            refused("buy(0, " + maker + ", ..)", -1, x -> x.buy(0, maker, 0, 1, 0, 0));
        }
        for (int k : NO_KINDS) {
            refused("buy(0, 0, " + k + ", ..)", -1, x -> x.buy(0, 0, k, 1, 0, 0));
        }
        for (int n : new int[] {MIN, -1, 0, 5001, MAX}) {
            refused("casks " + n, -1, x -> x.buy(0, 0, 0, n, 0, 0));
            refused("send " + n, -1, x -> x.send(1, 0, n));
        }
        for (int n : new int[] {MIN, -1, 8, MAX}) {
            refused("grade " + n, -1, x -> x.buy(0, 0, 0, 1, n, 0));
        }
        for (int n : new int[] {MIN, -1, 100001, MAX}) {
            refused("price " + n, -1, x -> x.buy(0, 0, 0, 1, 0, n));
        }
        for (int lot : new int[] {MIN, -1, 15, 300, MAX}) {
            refused("send lot " + lot, -1, x -> x.send(lot, 0, 1));
        }
        refused("send one on its way", -1, x -> x.send(9, 0, 1));
        refused("send to its own place", -1, x -> x.send(1, 1, 1));
        refused("send one more than there are", -1, x -> x.send(1, 0, x.lot(1, 3) + 1));
    }

    private static void weeks() {
        Check.sentence("9: NONE: it is 200");
        FleetStores x = Scene.busy();
        FleetStores other = Scene.busy();
        Check.weeks(x, 197);
        Check.weeks(other, 197);
        Check.due("a week more", x.week(), -1);
        Check.due("and another", x.week(), -1);
        Check.due("all is as it was", Scene.sent(x).equals(Scene.sent(other)) ? 1 : 0, 1);
        for (int what = 0; what < 8; what++) {
            Check.due("count(" + what + ")", x.count(what), other.count(what));
        }
    }

    private static void tape() {
        Check.sentence("16, 17 and 19: NONE: more than 200; False: n; no such one, a FAULT");
        for (int n : new int[] {MIN, -1, 5, 200, MAX}) {
            refused("end(" + n + ")", 0, x -> x.end(n) ? 1 : 0);
        }
        refused("a fault", 0, x -> x.contract(1) ? 1 : 0);
        for (int maker : NO_MAKERS) {
            refused("contract(" + maker + ")", 0, x -> x.contract(maker) ? 1 : 0);
        }
        FleetStores x = new FleetStores();
        Check.feed(x, " ".repeat(190) + "k=1:2 ");
        Check.due("five to 196", x.feed(0x3B6B3D31, 0x3A000000, 0, 0, 0), -1);
        Check.due("196 still", x.count(7), 196);
        Check.due("no fault still", x.fault(), -1);
        Check.due("four to 196", x.feed(0x20202020, 0, 0, 0, 0), 200);
    }

    private static void drawings() {
        Check.sentence("20: NONE");
        for (int lot : new int[] {MIN, -1, 15, 300, MAX}) {
            refused("draw lot " + lot, -1, x -> x.draw(lot, 1, 1));
        }
        for (int k : new int[] {MIN, -1, 41, MAX}) {
            refused("k " + k, -1, x -> x.draw(0, k, 1));
        }
        refused("one sent, there", -1, x -> x.draw(8, 1, 1));
        refused("one sent, on its way", -1, x -> x.draw(9, 1, 1));
        refused("one drawn", -1, x -> x.draw(1, 1, 1));
        refused("31 of 30", -1, x -> x.draw(11, 31, 1));
    }

    private static void surveys() {
        Check.sentence("24: -1,000,000");
        for (int p : NO_PLACES) {
            refused("place " + p, WRONG, x -> x.survey(p, 0, 1, 1));
        }
        for (int k : NO_KINDS) {
            refused("kind " + k, WRONG, x -> x.survey(0, k, 1, 1));
        }
        for (int week : new int[] {MIN, -1, 4, MAX}) {
            refused("week " + week, WRONG, x -> x.survey(0, 0, week, 1));
        }
        for (int found : new int[] {MIN, -1, 100001, MAX}) {
            refused("found " + found, WRONG, x -> x.survey(0, 0, 1, found));
        }
    }

    private static void questions() {
        Check.sentence("10 to 15, 18, 21 to 23, 25 to 27: asking changes nothing");
        int fault = Scene.busy().fault();
        refused("lot", -1, x -> x.lot(15, 0));
        refused("stock", -1, x -> x.stock(8, 0));
        refused("open", -1, x -> x.open(8, 0));
        refused("lacks", -1, x -> x.lacks(8, 0));
        refused("known", -1, x -> x.known(8, 0, 0));
        refused("lasts", -1, x -> x.lasts(8));
        refused("lasts, answered", 0, x -> x.lasts(1));
        refused("fault", fault, x -> x.fault());
        refused("due", 0, x -> x.due(15));
        refused("owed", 0, x -> x.owed(10));
        refused("condemned", 0, x -> x.condemned(15));
        refused("balance", WRONG, x -> x.balance(8, 0));
        refused("began", -1, x -> x.began(0, 0, 4));
        refused("count", -1, x -> x.count(8));
    }
}
