import java.util.regex.Matcher;
import java.util.regex.Pattern;

/** Promises 16 to 19: the tape, its fault, and contracts. */
public final class ContractsTest {
    private static final String CLAUSE = "[bkng] *[=<>] *[0-9]{1,5} *: *-?[0-9]{1,5}";
    private static final Pattern TEXT = Pattern.compile(" *| *" + CLAUSE + "( *; *" + CLAUSE + ")* *");

    public static void main(String[] args) {
        feed();
        end();
        faults();
        faultsOfManyTexts();
        contract();
        longest();
        readAnew();
        Check.end();
    }

    private static void feed() {
        FleetStores x = new FleetStores();
        Check.due("no bytes", x.feed(0, 0, 0, 0, 0), 0);
        Check.due("the highest first", x.feed('b' << 24 | '=' << 16 | '1' << 8 | ':', '1' << 24, 0, 0, 0), 5);
        Check.due("no fault", x.fault(), -1);
        Check.due("zeros are left out", x.feed(0, ';', 'k' << 16, '=' << 8, '2' << 24 | ':'), 10);
        Check.due("a number is due at the end", x.fault(), 10);
        Check.due("7", x.feed('7', 0, 0, 0, 0), 11);
        Check.due("no fault again", x.fault(), -1);
        Check.due("high bytes are bytes", x.feed(-1, 0, 0, 0, 0), 15);
        Check.due("and a fault", x.fault(), 11);
        x.end(0);
        for (int i = 1; i <= 10; i++) {
            Check.due("twenty more", x.feed(-1, -1, -1, -1, -1), 20 * i);
        }
        Check.due("200 and none", x.feed(0, 0, 0, 0, 0), 200);
        Check.due("201", x.feed(0, 0, 1, 0, 0), -1);
        Check.due("as it was", x.count(7), 200);
        x.end(185);
        Check.due("205", x.feed(-1, -1, -1, -1, -1), -1);
        Check.due("none of them came", x.count(7), 185);
        Check.due("200", x.feed(-1, -1, -1, -256, 0), 200);
    }

    private static void end() {
        FleetStores x = new FleetStores();
        Check.yes("end(0)", x.end(0));
        Check.no("end(1)", x.end(1));
        Check.no("end(-1)", x.end(-1));
        Check.feed(x, "b=1:1;;");
        Check.no("end(8)", x.end(8));
        Check.yes("end(7)", x.end(7));
        Check.due("all stay", x.count(7), 7);
        Check.due("fault at 6", x.fault(), 6);
        Check.yes("end(5)", x.end(5));
        Check.due("five stay", x.count(7), 5);
        Check.due("no fault", x.fault(), -1);
        Check.no("end(6)", x.end(6));
        Check.feed(x, "2");
        Check.due("more comes behind them", x.count(7), 6);
        Check.due("no fault then", x.fault(), -1);
    }

    private static void faultIs(String text, int want) {
        FleetStores x = new FleetStores();
        Check.feed(x, text);
        Check.due("fault of '" + text + "'", x.fault(), want);
        Check.due("the tape stays", x.count(7), text.length());
    }

    private static void faults() {
        faultIs("", -1);
        faultIs("    ", -1);
        faultIs("b=1:2", -1);
        faultIs("  b  =  1  :  2  ", -1);
        faultIs("b=1:-2;k<3:4 ; n>99999:-99999;g=00000:00000", -1);
        faultIs("b=1:2;", 6);
        faultIs("b=1:2;  ", 8);
        faultIs(";", 0);
        faultIs("  ;", 2);
        faultIs("b=1:2;;", 6);
        faultIs("b", 1);
        faultIs("b  ", 3);
        faultIs("bb", 1);
        faultIs("B=1:2", 0);
        faultIs("x=1:2", 0);
        faultIs("b=", 2);
        faultIs("b==", 2);
        faultIs("b!1:2", 1);
        faultIs("b=1", 3);
        faultIs("b=-1:2", 2);
        faultIs("b=:2", 2);
        faultIs("b=1:", 4);
        faultIs("b=1;", 3);
        faultIs("b=1:;", 4);
        faultIs("b=1:-", 5);
        faultIs("b=1:- 2", 5);
        faultIs("b=1:--2", 5);
        faultIs("b=1: -2", -1);
        faultIs("b=1:+2", 4);
        faultIs("b=1 1:2", 4);
        faultIs("b=1:2 2", 6);
        faultIs("b=123456:2", 7);
        faultIs("b=12345:2", -1);
        faultIs("b=1:123456", 9);
        faultIs("b=1:-123456", 10);
        faultIs("b=1:-12345", -1);
        faultIs("b=1:2,k=1:2", 5);
        faultIs("b=1:2 k=1:2", 6);
        faultIs("b=1:2:3", 5);
        faultIs("b\t=1:2", 1);
        faultIs("b=1:2\u00a0", 5);
        faultIs("b=1:2\u00ff", 5);
    }

    /** The fault by a pattern: the first byte behind which no more bytes could make the text match. */
    private static int faultByPattern(String text) {
        for (int n = 1; n <= text.length(); n++) {
            Matcher m = TEXT.matcher(text.substring(0, n));
            if (!m.matches() && !m.hitEnd()) {
                return n - 1;
            }
        }
        return TEXT.matcher(text).matches() ? -1 : text.length();
    }

    private static void faultsOfManyTexts() {
        java.util.Random random = new java.util.Random(5);
        String[] parts = {"b", "k", "n", "g", "=", "<", ">", "1", "12345", "99", ":", "-", ";", " ", "x", "0"};
        String[] whole = {"b=1:2", "k < 12 : -3", "n>00001:99999", "g=0:-0"};
        for (int i = 0; i < 4000; i++) {
            StringBuilder text = new StringBuilder();
            for (int c = random.nextInt(3); c >= 0; c--) {
                text.append(whole[random.nextInt(4)]).append(random.nextInt(3) == 0 ? " ; " : ";");
            }
            for (int c = random.nextInt(3); c > 0; c--) {
                int at = random.nextInt(text.length());
                text.insert(at, parts[random.nextInt(parts.length)]);
                text.deleteCharAt(random.nextInt(text.length()));
            }
            text.setLength(random.nextInt(text.length() + 1));
            FleetStores x = new FleetStores();
            Check.feed(x, text.toString());
            int want = faultByPattern(text.toString());
            Check.due("fault of '" + text + "'", x.fault(), want);
            Check.due("contract of '" + text + "'", x.contract(i % 10) ? 1 : 0, want == -1 ? 1 : 0);
            Check.due("tape behind it", x.count(7), want == -1 ? 0 : text.length());
        }
    }

    private static void contract() {
        FleetStores x = new FleetStores();
        Check.no("maker 10", Check.contract(x, 10, "k=0:5"));
        Check.due("the tape stays", x.count(7), 5);
        Check.no("maker -1", x.contract(-1));
        Check.yes("maker 9", x.contract(9));
        Check.due("the tape is empty", x.count(7), 0);
        Check.no("a fault", Check.contract(x, 9, "k=0:6;"));
        Check.due("the tape stays with it", x.count(7), 6);
        x.buy(0, 9, 0, 1, 0, 100);
        x.buy(0, 9, 0, 1, 0, 100);
        x.buy(0, 8, 0, 1, 0, 100);
        x.draw(0, 0, 0);
        Check.due("the contract as it was", x.due(0), 105);
        x.draw(2, 0, 0);
        Check.due("another maker has none", x.due(2), 100);
        x.end(0);
        Check.yes("blanks alone", Check.contract(x, 9, "   "));
        x.draw(1, 0, 0);
        Check.due("no clauses any more", x.due(1), 100);
        Check.due("what was due stays", x.due(0), 105);
        Check.yes("no bytes", x.contract(0));
    }

    private static void readAnew() {
        FleetStores x = new FleetStores();
        Check.contract(x, 0, "k=0:1;k=0:2;k=0:4");
        Check.contract(x, 0, "k=0:8");
        Check.contract(x, 0, "k=0:16;k=0:32");
        Check.contract(x, 1, "k=0:64");
        Check.feed(x, "k=0:128;");
        x.fault();
        x.end(0);
        Check.contract(x, 2, "");
        for (int maker = 0; maker < 3; maker++) {
            x.buy(0, maker, 0, 1, 0, 0);
            x.draw(maker, 0, 0);
        }
        Check.due("the last one alone", x.due(0), 48);
        Check.due("nothing of another maker's", x.due(1), 64);
        Check.due("nothing of what had a fault", x.due(2), 0);
    }

    private static void longest() {
        FleetStores x = new FleetStores();
        StringBuilder text = new StringBuilder("k=0:1");
        for (int i = 1; i < 33; i++) {
            text.append(";k=0:").append(1 + i % 9);
        }
        Check.due("197 bytes", text.length(), 197);
        Check.yes("33 clauses", Check.contract(x, 3, text.toString()));
        int sum = 0;
        for (int i = 0; i < 33; i++) {
            sum += 1 + i % 9;
        }
        x.buy(0, 3, 0, 1, 0, 0);
        x.draw(0, 0, 0);
        Check.due("all of them hold", x.due(0), sum);
        Check.feed(x, text + ";b=");
        Check.due("a 34th ends too early", x.fault(), 200);
        x.end(0);
        Check.feed(x, text + ";b;");
        Check.due("a 34th is wrong", x.fault(), 199);
    }
}
