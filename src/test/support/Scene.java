import java.util.ArrayList;
import java.util.List;

/**
 * An object in the midst of its work, made the same each time, and all that can be asked of one, now
 * and as things go on: two objects that were told the same answer the same. Each list of answers
 * takes an object of its own, so that none is used for more than 512 calls.
 */
final class Scene {
    private Scene() {
    }

    /** Some 60 calls: 15 lots, some on their way, some drawn; three weeks; a tape that is not whole. */
    static FleetStores busy() {
        FleetStores x = new FleetStores();
        for (int p = 0; p < 8; p++) {
            x.men(p, 3 + p);
            x.buy(p, p, p % 4, 60 + p, p % 8, 100 * p);
        }
        x.rations(1, 20);
        x.spoils(0, 0, 30);
        x.spoils(2, 0, 100);
        x.spoils(3, 1, 50);
        x.way(0, 1, 0);
        x.way(0, 2, 5);
        x.lag(1, 1);
        x.lag(3, 2);
        Check.contract(x, 1, "b>0:-30;k=5:7");
        Check.contract(x, 2, "g>1:40");
        x.send(0, 1, 20);
        x.send(0, 2, 10);
        x.send(3, 4, 30);
        Check.weeks(x, 2);
        x.survey(0, 0, 1, 20);
        x.survey(3, 3, 1, 50);
        x.buy(0, 1, 0, 30, 5, 55);
        x.buy(1, 2, 2, 30, 5, 66);
        x.draw(1, 5, 77);
        x.send(8, 5, 4);
        x.week();
        x.send(2, 0, 9);
        x.survey(0, 0, 1, 22);
        x.draw(2, 3, 78);
        Check.feed(x, "k=1:");
        return x;
    }

    /** What can be asked without a change: some 400 calls. */
    static List<Integer> seen(FleetStores x) {
        List<Integer> all = new ArrayList<>();
        for (int what = 0; what < 8; what++) {
            all.add(x.count(what));
        }
        for (int p = 0; p < 8; p++) {
            all.add(x.lasts(p));
            for (int k = 0; k < 4; k++) {
                all.add(x.stock(p, k));
                all.add(x.open(p, k));
                all.add(x.lacks(p, k));
                all.add(x.balance(p, k));
                all.add(x.began(p, k, x.count(0)));
            }
        }
        for (int lot = 0; lot < 16; lot++) {
            for (int what = 3; what < 6; what++) {
                all.add(x.lot(lot, what));
            }
            all.add(x.due(lot));
            all.add(x.condemned(lot));
        }
        for (int maker = 0; maker < 10; maker++) {
            all.add(x.owed(maker));
        }
        all.add(x.fault());
        return all;
    }

    /** What shows only later: men, rations, spoiling, lags and the tape. Some 200 calls. */
    static List<Integer> later(FleetStores x) {
        List<Integer> all = new ArrayList<>();
        for (int p = 0; p < 8; p++) {
            for (int q = 0; q < 4; q++) {
                all.add(x.known(p, p % 4, q));
            }
        }
        all.add(Check.feed(x, "5"));
        all.add(x.fault());
        all.add(x.contract(7) ? 1 : 0);
        for (int lot = 0; lot < 16; lot++) {
            all.add(x.draw(lot, 1, lot));
            all.add(x.due(lot));
        }
        for (int week = 0; week < 40; week++) {
            all.add(x.week());
            all.add(x.count(3));
            all.add(x.count(4));
            all.add(x.count(5));
        }
        return all;
    }

    /** The ways of all pairs, shown by what is sent on them. Some 130 calls. */
    static List<Integer> sent(FleetStores x) {
        List<Integer> all = new ArrayList<>();
        for (int p = 0; p < 8; p++) {
            int lot = x.buy(p, 0, 0, 7, 0, 0);
            all.add(lot);
            for (int to = 0; to < 8; to++) {
                all.add(x.lot(x.send(lot, to, 1), 5));
            }
        }
        return all;
    }
}
