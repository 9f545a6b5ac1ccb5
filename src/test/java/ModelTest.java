import java.util.Random;

/**
 * Runs of 512 calls, as many as an object is used for, with chosen-by-seed arguments, right and
 * wrong, held against the Model.
 */
public final class ModelTest {
    private static final int MOST_CALLS = 512;
    private static final int DEAREST_STEP = 16;
    private static final int CALLS_TO_COMPARE = 120;
    private static final String[] CONTRACTS = {
        "", "  ", "b>0:-30;k=5:7", "g<3:10; g>2:-10 ;n>20:5", "k>10 : 12 ; b<2:-99999", "n=30:1;b=0:2;b=1:3;b=2:4;k<9:50",
    };
    private static final int[] ODD = {-1, Integer.MIN_VALUE, Integer.MAX_VALUE, -7};

    private final Random random;
    private final FleetStores x = new FleetStores();
    private final Model m = new Model();
    private final int hurry;
    private int calls;
    private String run;

    private ModelTest(int seed) {
        random = new Random(seed);
        hurry = random.nextInt(7) % 4;
        run = "run " + seed;
    }

    public static void main(String[] args) {
        int weeks = 0;
        int lots = 0;
        int surveys = 0;
        for (int seed = 0; seed < 1500 && Check.wrong() < 20; seed++) {
            ModelTest run = new ModelTest(seed);
            run.play();
            weeks = Math.max(weeks, run.m.now);
            lots = Math.max(lots, run.m.lots.size());
            surveys = Math.max(surveys, run.m.surveys.size());
            Check.yes("run " + seed + " has " + run.calls + " calls", run.calls <= MOST_CALLS);
        }
        Check.due("some runs come to the last week", weeks, 200);
        Check.due("and to the last lot", lots, 300);
        Check.due("and to the last survey", surveys, 200);
        Check.end();
    }

    private void play() {
        while (calls < MOST_CALLS - CALLS_TO_COMPARE) {
            step();
        }
        compare();
    }

    /** Some runs hurry to a limit of the document, which 512 calls of all sorts would never reach. */
    private void step() {
        boolean plainly = hurry == 0 || random.nextInt(8) == 0;
        switch (plainly ? 0 : hurry) {
            case 1: week(); break;
            case 2: buy(); break;
            case 3: survey(); break;
            default: step(random.nextInt(29)); break;
        }
    }

    /** Below 'many' mostly; now and then just at it, or far off. */
    private int pick(int many) {
        int kind = random.nextInt(hurry == 2 ? 200 : 40);
        return kind == 0 ? many : kind == 1 ? ODD[random.nextInt(4)] : random.nextInt(many);
    }

    private static boolean in(int n, int least, int most) {
        return n >= least && n <= most;
    }

    private void due(String call, int got, int want) {
        calls++;
        Check.due(run + ": " + call, got, want);
    }

    private void step(int what) {
        switch (what) {
            case 0: men(); break;
            case 1: tell(); break;
            case 2: case 3: case 4: case 5: buy(); break;
            case 6: case 7: case 8: case 9: case 10: send(); break;
            case 11: case 12: case 13: week(); break;
            case 14: case 15: lot(); break;
            case 16: case 17: store(); break;
            case 18: case 19: lasts(); break;
            case 20: contract(); break;
            case 21: case 22: draw(); break;
            case 23: case 24: survey(); break;
            case 25: letters(); break;
            case 26: count(); break;
            default: send(); break;
        }
    }

    private void men() {
        int p = pick(8);
        int many = random.nextInt(9) == 0 ? pick(1001) : random.nextInt(60);
        boolean ok = in(p, 0, 7) && in(many, 0, 1000);
        due("men", x.men(p, many) ? 1 : 0, ok ? 1 : 0);
        if (ok) {
            m.men[p] = many;
        }
    }

    private void tell() {
        int k = pick(4);
        int rations = pick(501);
        boolean ok = in(k, 0, 3) && in(rations, 1, 500);
        due("rations", x.rations(k, rations) ? 1 : 0, ok ? 1 : 0);
        if (ok) {
            m.rations[k] = rations;
        }
        int age = pick(10);
        int part = random.nextInt(3) == 0 ? pick(1001) : random.nextInt(90);
        ok = in(k, 0, 3) && in(age, 0, 9) && in(part, 0, 1000);
        due("spoils", x.spoils(k, age, part) ? 1 : 0, ok ? 1 : 0);
        if (ok) {
            m.spoiling[k][age] = part;
        }
        int a = pick(8);
        int b = pick(8);
        int weeks = random.nextInt(4) == 0 ? pick(31) : random.nextInt(4);
        ok = in(a, 0, 7) && in(b, 0, 7) && a != b && in(weeks, 0, 30);
        due("way", x.way(a, b, weeks) ? 1 : 0, ok ? 1 : 0);
        if (ok) {
            m.ways.put(Math.min(a, b) * 8 + Math.max(a, b), weeks);
        }
        ok = in(a, 0, 7) && in(weeks, 0, 30);
        due("lag", x.lag(a, weeks) ? 1 : 0, ok ? 1 : 0);
        if (ok) {
            m.lags[a] = weeks;
        }
    }

    private void buy() {
        int p = random.nextInt(3) == 0 ? pick(8) : 0;
        int maker = pick(10);
        int k = pick(4);
        int casks = random.nextInt(3) == 0 ? pick(5001) : 1 + random.nextInt(50);
        int grade = pick(8);
        int price = pick(100001);
        boolean ok = in(p, 0, 7) && in(maker, 0, 9) && in(k, 0, 3) && in(casks, 1, 5000) && in(grade, 0, 7)
                && in(price, 0, 100000) && m.lots.size() < 300;
        int got = x.buy(p, maker, k, casks, grade, price);
        due("buy", got, ok ? m.buy(p, maker, k, casks, grade, price) : -1);
    }

    private void send() {
        int lot = pick(m.lots.size() + 1);
        int to = pick(8);
        int casks = random.nextInt(2) == 0 ? 1 + random.nextInt(20) : pick(2000);
        boolean ok = in(lot, 0, m.lots.size() - 1) && in(to, 0, 7) && m.lots.size() < 300;
        if (ok && random.nextInt(4) == 0) {
            casks = m.lots.get(lot).casks + random.nextInt(2);
        }
        ok = ok && m.lots.get(lot).coming == -1 && m.lots.get(lot).place != to && in(casks, 1, m.lots.get(lot).casks);
        int got = x.send(lot, to, casks);
        due("send", got, ok ? m.send(lot, to, casks) : -1);
    }

    private void week() {
        int got = x.week();
        if (m.now < 200) {
            m.week();
            due("week", got, m.now);
        } else {
            due("week", got, -1);
        }
    }

    private void lot() {
        int lot = pick(m.lots.size() + 1);
        int what = pick(8);
        int want = -1;
        if (in(lot, 0, m.lots.size() - 1) && in(what, 0, 7)) {
            Model.Lot l = m.lots.get(lot);
            want = new int[] {l.maker, l.kind, l.made, l.casks, l.place, l.coming, l.grade, l.mark}[what];
        }
        due("lot(" + lot + ", " + what + ")", x.lot(lot, what), want);
    }

    private void store() {
        int p = pick(8);
        int k = pick(4);
        boolean ok = in(p, 0, 7) && in(k, 0, 3);
        due("stock", x.stock(p, k), ok ? m.stock(p, k) : -1);
        due("open", x.open(p, k), ok ? m.open[p][k] : -1);
        due("lacks", x.lacks(p, k), ok ? m.lacks[p][k] : -1);
        due("balance", x.balance(p, k), ok ? m.balance(p, k) : -1000000);
    }

    private void lasts() {
        int p = pick(8);
        due("lasts(" + p + ")", x.lasts(p), in(p, 0, 7) ? m.lasts(p) : -1);
    }

    private void contract() {
        String text = CONTRACTS[random.nextInt(CONTRACTS.length)];
        int maker = pick(10);
        x.end(0);
        Check.feed(x, text);
        calls += 1 + Math.max(1, (text.length() + 19) / 20);
        boolean ok = in(maker, 0, 9);
        due("contract", x.contract(maker) ? 1 : 0, ok ? 1 : 0);
        if (ok) {
            m.contracts[maker] = text;
        }
        m.tape = ok ? "" : text;
    }

    private void draw() {
        int lot = pick(m.lots.size() + 1);
        int k = random.nextInt(2) == 0 ? pick(41) : random.nextInt(6);
        long seed = random.nextLong();
        boolean ok = in(lot, 0, m.lots.size() - 1) && m.lots.get(lot).bought > 0 && !m.lots.get(lot).drawn
                && in(k, 0, Math.min(40, m.lots.get(lot).bought));
        due("draw", x.draw(lot, k, seed), ok ? m.draw(lot, k, seed) : -1);
        due("due", x.due(lot), in(lot, 0, m.lots.size() - 1) ? m.lots.get(lot).due : 0);
        int maker = pick(10);
        due("owed", x.owed(maker), m.owed(maker));
    }

    private void survey() {
        int p = random.nextInt(3) == 0 ? pick(8) : 0;
        int k = pick(4);
        int week = pick(m.now + 1);
        boolean ok = in(p, 0, 7) && in(k, 0, 3) && in(week, 0, m.now) && m.surveys.size() < 200;
        int found = ok && random.nextInt(3) > 0 ? Math.max(0, m.began.get(week)[p][k] - random.nextInt(20)) : pick(100001);
        ok = ok && in(found, 0, 100000);
        int got = x.survey(p, k, week, found);
        due("survey", got, ok ? m.survey(p, k, week, found) : -1000000);
    }

    private void letters() {
        int p = pick(8);
        int k = pick(4);
        int q = pick(m.now + 1);
        boolean ok = in(p, 0, 7) && in(k, 0, 3) && in(q, 0, m.now);
        due("began", x.began(p, k, q), ok ? m.began.get(q)[p][k] : -1);
        ok = ok && q >= m.lags[p];
        due("known", x.known(p, k, q), ok ? m.began.get(q - m.lags[p])[p][k] : -1);
    }

    private void count() {
        int casks = 0;
        int lost = 0;
        int opened = 0;
        for (Model.Lot l : m.lots) {
            casks += l.casks;
        }
        for (int mark = 0; mark < 300; mark++) {
            lost += m.condemned[mark];
        }
        for (int i = 0; i < 32; i++) {
            opened += m.opened[i / 4][i % 4];
        }
        int[] want = {m.now, m.lots.size(), m.bought, casks, lost, opened, m.surveys.size(), m.tape.length()};
        int what = pick(8);
        due("count(" + what + ")", x.count(what), in(what, 0, 7) ? want[what] : -1);
        int mark = pick(300);
        due("condemned(" + mark + ")", x.condemned(mark), in(mark, 0, 299) ? m.condemned[mark] : 0);
    }

    private void compare() {
        run = run + ", at its end";
        for (int p = 0; p < 8; p++) {
            due("lasts(" + p + ")", x.lasts(p), m.lasts(p));
        }
        while (calls < MOST_CALLS - DEAREST_STEP) {
            lot();
            store();
            letters();
            count();
            draw();
        }
    }
}
