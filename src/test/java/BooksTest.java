/** Promises 24, 25 and 27: surveys, balances, and what is counted. */
public final class BooksTest {
    private static final int WRONG = -1000000;

    public static void main(String[] args) {
        surveyBounds();
        twoHundredSurveys();
        balances();
        forgiven();
        forgivenByEights();
        counts();
        Check.end();
    }

    private static void surveyBounds() {
        FleetStores x = new FleetStores();
        x.buy(2, 0, 1, 10, 0, 0);
        Check.weeks(x, 2);
        Check.due("place 8", x.survey(8, 1, 1, 1), WRONG);
        Check.due("place -1", x.survey(-1, 1, 1, 1), WRONG);
        Check.due("kind 4", x.survey(2, 4, 1, 1), WRONG);
        Check.due("kind -1", x.survey(2, -1, 1, 1), WRONG);
        Check.due("week 3", x.survey(2, 1, 3, 1), WRONG);
        Check.due("week -1", x.survey(2, 1, -1, 1), WRONG);
        Check.due("found -1", x.survey(2, 1, 1, -1), WRONG);
        Check.due("found 100001", x.survey(2, 1, 1, 100001), WRONG);
        Check.due("none was told", x.count(6), 0);
        Check.due("week 0", x.survey(2, 1, 0, 100000), 100000);
        Check.due("week 1", x.survey(2, 1, 1, 0), -10);
        Check.due("this week", x.survey(2, 1, 2, 10), 0);
        Check.due("three were told", x.count(6), 3);
        Check.due("balance(8, 0)", x.balance(8, 0), WRONG);
        Check.due("balance(-1, 0)", x.balance(-1, 0), WRONG);
        Check.due("balance(0, 4)", x.balance(0, 4), WRONG);
        Check.due("balance(0, -1)", x.balance(0, -1), WRONG);
    }

    private static void twoHundredSurveys() {
        FleetStores x = new FleetStores();
        x.week();
        for (int i = 1; i <= 200; i++) {
            Check.due("survey " + i, x.survey(i % 8, i % 4, i % 2, i), i);
        }
        int before = x.balance(0, 0);
        Check.due("a 201st", x.survey(0, 0, 0, 5), WRONG);
        Check.due("count", x.count(6), 200);
        Check.due("the last told for week 0", before, 200);
        Check.due("it changed nothing", x.balance(0, 0), before);
    }

    private static void balances() {
        FleetStores x = new FleetStores();
        x.buy(3, 0, 2, 100, 0, 0);
        Check.weeks(x, 3);
        x.survey(3, 2, 1, 103);
        x.survey(3, 2, 2, 99);
        Check.due("3 - 1", x.balance(3, 2), 2);
        x.survey(3, 2, 1, 90);
        Check.due("-10 - 1", x.balance(3, 2), -11);
        x.survey(3, 2, 1, 100);
        Check.due("0 - 1", x.balance(3, 2), -1);
        x.survey(3, 2, 2, 100);
        Check.due("0", x.balance(3, 2), 0);
        x.survey(3, 2, 0, 4);
        Check.due("4", x.balance(3, 2), 4);
        Check.due("another kind", x.balance(3, 1), 0);
        Check.due("another place", x.balance(2, 2), 0);
    }

    private static void forgiven() {
        FleetStores x = new FleetStores();
        x.buy(3, 0, 2, 100, 0, 0);
        x.buy(3, 0, 1, 100, 0, 0);
        x.buy(4, 0, 2, 100, 0, 0);
        x.rations(2, 7);
        x.men(3, 23);
        x.week();
        Check.due("23 opened", x.began(3, 2, 1), 77);
        Check.due("20 below", x.survey(3, 2, 1, 57), -20);
        Check.due("2 forgiven", x.balance(3, 2), -18);
        x.week();
        Check.due("46 opened: 5", x.balance(3, 2), -15);
        x.survey(3, 2, 1, 72);
        Check.due("5 below: all", x.balance(3, 2), 0);
        x.survey(3, 2, 1, 74);
        Check.due("3 below: no more than all", x.balance(3, 2), 0);
        x.survey(3, 2, 1, 79);
        Check.due("what is above stays", x.balance(3, 2), 2);
        x.survey(3, 2, 2, 50);
        Check.due("2 - 4 + 5", x.balance(3, 2), 0);
        x.survey(4, 2, 1, 90);
        Check.due("nothing was opened there", x.balance(4, 2), -10);
        x.survey(3, 1, 1, 0);
        Check.due("of that kind there: 4 and 3 casks", x.balance(3, 1), -96);
    }

    private static void forgivenByEights() {
        FleetStores x = new FleetStores();
        x.buy(5, 0, 0, 100, 0, 0);
        x.rations(0, 1);
        x.men(5, 1);
        x.week();
        x.survey(5, 0, 1, 90);
        Check.due("7 opened: none", x.balance(5, 0), -3);
        x.rations(0, 7);
        x.week();
        Check.due("8 opened: one", x.balance(5, 0), -2);
        Check.weeks(x, 7);
        Check.due("15 opened: one", x.balance(5, 0), -2);
        x.week();
        Check.due("16 opened: two", x.balance(5, 0), -1);
    }

    private static void counts() {
        FleetStores x = new FleetStores();
        x.buy(0, 0, 0, 100, 0, 0);
        x.buy(1, 0, 3, 50, 0, 0);
        x.send(0, 1, 30);
        x.spoils(0, 0, 100);
        x.men(1, 10);
        x.week();
        x.survey(0, 0, 0, 0);
        Check.feed(x, "abc");
        int[] want = {1, 3, 150, 135, 13, 2, 1, 3};
        for (int what = 0; what < 8; what++) {
            Check.due("count(" + what + ")", x.count(what), want[what]);
        }
        Check.due("count(8)", x.count(8), -1);
        Check.due("count(-1)", x.count(-1), -1);
        Check.due("count(MIN)", x.count(Integer.MIN_VALUE), -1);
    }
}
