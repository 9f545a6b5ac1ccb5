import java.util.ArrayList;
import java.util.LinkedHashMap;
import java.util.List;
import java.util.Map;

/**
 * The document's words as plainly as they can be followed, cask by cask and without a thought for
 * speed: what FleetStores answers is held against it. It checks no bounds; its callers do.
 */
final class Model {
    static final class Lot {
        int maker;
        int kind;
        int made;
        int casks;
        int place;
        int coming;
        int grade;
        int mark;
        int bought;
        int price;
        int due;
        boolean drawn;

        Lot copy() {
            Lot c = new Lot();
            c.maker = maker;
            c.kind = kind;
            c.made = made;
            c.casks = casks;
            c.place = place;
            c.coming = coming;
            c.mark = mark;
            return c;
        }
    }

    int now = 0;
    int[] men = new int[8];
    int[] rations = {50, 50, 50, 50};
    int[][] spoiling = new int[4][10];
    Map<Integer, Integer> ways = new LinkedHashMap<>();
    int[] lags = new int[8];
    List<Lot> lots = new ArrayList<>();
    int[][] open = new int[8][4];
    int[][] lacks = new int[8][4];
    int[][] came = new int[8][4];
    int[][] sent = new int[8][4];
    int[][] opened = new int[8][4];
    int[][] lost = new int[8][4];
    int[] condemned = new int[300];
    int bought = 0;
    List<int[][]> began = new ArrayList<>();
    List<int[]> surveys = new ArrayList<>();
    String tape = "";
    String[] contracts = {"", "", "", "", "", "", "", "", "", ""};

    Model() {
        began.add(new int[8][4]);
    }

    int way(int a, int b) {
        return ways.getOrDefault(Math.min(a, b) * 8 + Math.max(a, b), 2);
    }

    int buy(int place, int maker, int kind, int casks, int grade, int price) {
        Lot l = new Lot();
        l.maker = maker;
        l.kind = kind;
        l.made = now;
        l.casks = casks;
        l.place = place;
        l.coming = -1;
        l.grade = grade;
        l.mark = lots.size();
        l.bought = casks;
        l.price = price;
        lots.add(l);
        came[place][kind] += casks;
        bought += casks;
        return l.mark;
    }

    int send(int lot, int to, int casks) {
        Lot from = lots.get(lot);
        Lot l = from.copy();
        l.grade = from.grade;
        l.casks = casks;
        l.place = to;
        l.coming = now + way(from.place, to);
        from.casks -= casks;
        sent[from.place][from.kind] += casks;
        lots.add(l);
        return lots.size() - 1;
    }

    void week() {
        for (Lot l : lots) {
            if (l.coming != -1 && l.coming <= now) {
                l.coming = -1;
                came[l.place][l.kind] += l.casks;
            }
        }
        for (Lot l : lots) {
            int part = spoiling[l.kind][Math.min((now - l.made) / 4, 9)];
            if (l.coming != -1) {
                part = Math.min(1000, part * 2);
            }
            int loss = l.casks * part / 1000;
            l.casks -= loss;
            condemned[l.mark] += loss;
            if (l.coming == -1) {
                lost[l.place][l.kind] += loss;
            }
        }
        for (int p = 0; p < 8; p++) {
            for (int k = 0; k < 4; k++) {
                eat(p, k);
            }
        }
        now++;
        int[][] stocks = new int[8][4];
        for (int p = 0; p < 8; p++) {
            for (int k = 0; k < 4; k++) {
                stocks[p][k] = stock(p, k);
            }
        }
        began.add(stocks);
    }

    private void eat(int p, int k) {
        int wanted = 7 * men[p];
        while (wanted > 0) {
            if (open[p][k] == 0 && !openOne(p, k)) {
                break;
            }
            open[p][k]--;
            wanted--;
        }
        lacks[p][k] += wanted;
    }

    private boolean openOne(int p, int k) {
        Lot first = null;
        for (Lot l : lots) {
            if (l.place == p && l.kind == k && l.coming == -1 && l.casks > 0 && (first == null || l.made < first.made)) {
                first = l;
            }
        }
        if (first == null) {
            return false;
        }
        first.casks--;
        opened[p][k]++;
        open[p][k] = rations[k];
        return true;
    }

    /** By the books: not by looking at the lots. */
    int stock(int p, int k) {
        return came[p][k] - sent[p][k] - opened[p][k] - lost[p][k];
    }

    int lasts(int place) {
        Model m = new Model();
        m.now = now;
        m.men[place] = men[place];
        m.rations = rations;
        m.spoiling = spoiling;
        for (Lot l : lots) {
            if (l.place == place) {
                m.lots.add(l.copy());
            }
        }
        m.open[place] = open[place].clone();
        for (int weeks = 0; weeks < 60; weeks++) {
            m.week();
            for (int k = 0; k < 4; k++) {
                if (m.lacks[place][k] > 0) {
                    return weeks;
                }
            }
        }
        return 60;
    }

    int draw(int lot, int k, long seed) {
        Lot l = lots.get(lot);
        List<Integer> line = new ArrayList<>();
        for (int i = 0; i < l.bought; i++) {
            line.add(i);
        }
        long x = seed;
        int bad = 0;
        for (int j = 0; j < k; j++) {
            x = x * 6364136223846793005L + 1442695040888963407L;
            java.util.Collections.swap(line, j, (int) (j + (x >>> 33) % (l.bought - j)));
        }
        for (int number : line.subList(0, k)) {
            bad += number % 7 < l.grade ? 1 : 0;
        }
        l.drawn = true;
        l.due = l.price;
        for (String clause : contracts[l.maker].replace(" ", "").split(";")) {
            if (!clause.isEmpty()) {
                l.due += amount(clause, bad, k, l.bought, now - l.made);
            }
        }
        return bad;
    }

    private static int amount(String clause, int b, int k, int n, int g) {
        int colon = clause.indexOf(':');
        int number = Integer.parseInt(clause.substring(2, colon));
        char letter = clause.charAt(0);
        int fact = letter == 'b' ? b : letter == 'k' ? k : letter == 'n' ? n : g;
        char sign = clause.charAt(1);
        boolean holds = sign == '=' ? fact == number : sign == '<' ? fact < number : fact > number;
        return holds ? Integer.parseInt(clause.substring(colon + 1)) : 0;
    }

    int owed(int maker) {
        int sum = 0;
        for (Lot l : lots) {
            sum += l.maker == maker && l.drawn ? l.due : 0;
        }
        return sum;
    }

    int survey(int p, int k, int week, int found) {
        int difference = found - began.get(week)[p][k];
        surveys.add(new int[] {p, k, week, difference});
        return difference;
    }

    int balance(int p, int k) {
        Map<Integer, Integer> last = new LinkedHashMap<>();
        for (int[] s : surveys) {
            if (s[0] == p && s[1] == k) {
                last.put(s[2], s[3]);
            }
        }
        int sum = 0;
        for (int difference : last.values()) {
            sum += difference;
        }
        return sum >= 0 ? sum : Math.min(0, sum + opened[p][k] / 8);
    }
}
