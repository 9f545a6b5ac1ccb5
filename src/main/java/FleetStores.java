/** The victuals of a fleet. The words in capitals are those of the document's "Terms". */
public final class FleetStores {
    public static final int NONE = -1;

    private static final int NO_BALANCE = -1000000;
    private static final int LAST_WEEK = 200;
    private static final int PLACES = 8;
    private static final int KINDS = 4;
    private static final int STORES = PLACES * KINDS;
    private static final int MAKERS = 10;
    private static final int MOST_MEN = 1000;
    private static final int MOST_RATIONS = 500;
    private static final int FIRST_RATIONS = 50;
    private static final int RATIONS_A_MAN = 7;
    private static final int MOST_LOTS = 300;
    private static final int MOST_CASKS = 5000;
    private static final int MOST_GRADE = 7;
    private static final int GRADES_ROUND = 7;
    private static final int MOST_PRICE = 100000;
    private static final int LAST_AGE = 9;
    private static final int WEEKS_AN_AGE = 4;
    private static final int WHOLE = 1000;
    private static final int LONGEST_WAY = 30;
    private static final int FIRST_WAY = 2;
    private static final int LONGEST_LAG = 30;
    private static final int LASTS_MOST = 60;
    private static final int MOST_BYTES = 200;
    private static final int BYTES_OF_A_NUMBER = 4;
    private static final int MOST_DIGITS = 5;
    // The shortest CLAUSE with its ; has six bytes, so 200 bytes hold 33.
    private static final int MOST_CLAUSES = 34;
    private static final int MOST_DRAWN = 40;
    private static final long DRAW_FACTOR = 6364136223846793005L;
    private static final long DRAW_STEP = 1442695040888963407L;
    private static final int DRAW_SHIFT = 33;
    private static final int MOST_SURVEYS = 200;
    private static final int MOST_FOUND = 100000;
    private static final int FORGIVEN_ONE_OF = 8;

    private final Place[] places;
    private final Kind[] kinds;
    private final Store[] stores;
    private final int[][] stocksAsBegan;
    private final int[][] ways;
    private final Lots lots;
    private final Tape tape;
    private final Reader reader;
    private final Contract[] contracts;
    private Contract spareContract;
    private final Line line;
    private int now;
    private int casksBought;
    private int casksCondemned;
    private int casksOpened;
    private int surveysTold;

    public FleetStores() {
        places = new Place[PLACES];
        kinds = new Kind[KINDS];
        stores = new Store[STORES];
        // The row of a WEEK is made as it begins: most objects see few of the 200.
        stocksAsBegan = new int[LAST_WEEK + 1][];
        stocksAsBegan[0] = new int[STORES];
        ways = new int[PLACES][PLACES];
        for (int k = 0; k < KINDS; k++) {
            kinds[k] = new Kind(k);
        }
        for (int p = 0; p < PLACES; p++) {
            places[p] = new Place(p);
            for (int k = 0; k < KINDS; k++) {
                int number = p * KINDS + k;
                stores[number] = new Store(number, places[p], kinds[k]);
            }
            for (int other = 0; other < PLACES; other++) {
                ways[p][other] = FIRST_WAY;
            }
        }
        lots = new Lots();
        tape = new Tape();
        reader = new Reader(tape);
        contracts = new Contract[MAKERS];
        spareContract = new Contract();
        line = new Line();
    }

    public boolean men(int place, int many) {
        Place at = placeOf(place);
        if (at == null || !within(many, 0, MOST_MEN)) {
            return false;
        }
        at.men = many;
        return true;
    }

    public boolean rations(int kind, int many) {
        Kind of = kindOf(kind);
        if (of == null || !within(many, 1, MOST_RATIONS)) {
            return false;
        }
        of.rations = many;
        return true;
    }

    public boolean spoils(int kind, int age, int part) {
        Kind of = kindOf(kind);
        if (of == null || !within(age, 0, LAST_AGE) || !within(part, 0, WHOLE)) {
            return false;
        }
        of.parts[age] = part;
        return true;
    }

    public boolean way(int one, int other, int weeks) {
        if (placeOf(one) == null || placeOf(other) == null || one == other) {
            return false;
        }
        if (!within(weeks, 0, LONGEST_WAY)) {
            return false;
        }
        ways[one][other] = weeks;
        ways[other][one] = weeks;
        return true;
    }

    public boolean lag(int place, int weeks) {
        Place of = placeOf(place);
        if (of == null || !within(weeks, 0, LONGEST_LAG)) {
            return false;
        }
        of.lag = weeks;
        return true;
    }

    public int buy(int place, int maker, int kind, int casks, int grade, int price) {
        Store store = storeOf(place, kind);
        if (store == null || !within(maker, 0, MAKERS - 1) || !within(casks, 1, MOST_CASKS)) {
            return NONE;
        }
        if (!within(grade, 0, MOST_GRADE) || !within(price, 0, MOST_PRICE) || lots.isFull()) {
            return NONE;
        }
        Lot bought = new Lot(store, maker, now, grade, lots.many, casks, NONE);
        bought.price = price;
        casksBought += casks;
        return lots.enter(bought);
    }

    public int send(int lot, int to, int casks) {
        Lot from = lots.numbered(lot);
        if (from == null || !from.isThere() || !within(casks, 1, from.casks) || lots.isFull()) {
            return NONE;
        }
        int place = from.store.place.number;
        Store store = storeOf(to, from.store.kind.number);
        if (store == null || to == place) {
            return NONE;
        }
        int coming = now + ways[place][to];
        Lot sent = new Lot(store, from.maker, from.made, from.grade, from.mark, casks, coming);
        from.casks -= casks;
        return lots.enter(sent);
    }

    public int week() {
        if (now >= LAST_WEEK) {
            return NONE;
        }
        bringIn();
        condemnSpoilt();
        eat();
        now++;
        writeStocks();
        return now;
    }

    public int lot(int lot, int what) {
        Lot of = lots.numbered(lot);
        return of == null ? NONE : of.told(what);
    }

    public int stock(int place, int kind) {
        Store store = storeOf(place, kind);
        return store == null ? NONE : lots.casksAt(store);
    }

    public int open(int place, int kind) {
        Store store = storeOf(place, kind);
        return store == null ? NONE : store.table.left;
    }

    public int lacks(int place, int kind) {
        Store store = storeOf(place, kind);
        return store == null ? NONE : store.lacked;
    }

    public int known(int place, int kind, int q) {
        Store store = storeOf(place, kind);
        if (store == null || !within(q, 0, now)) {
            return NONE;
        }
        return stockAsBegan(store, q - store.place.lag);
    }

    public int lasts(int place) {
        if (placeOf(place) == null) {
            return NONE;
        }
        beginTrial(place);
        for (int weeks = 0; weeks < LASTS_MOST; weeks++) {
            if (isShortInTrial(place, now + weeks)) {
                return weeks;
            }
        }
        return LASTS_MOST;
    }

    public int feed(int a, int b, int c, int d, int e) {
        int more = bytesIn(a) + bytesIn(b) + bytesIn(c) + bytesIn(d) + bytesIn(e);
        if (tape.length + more > MOST_BYTES) {
            return NONE;
        }
        tape.addBytesOf(a);
        tape.addBytesOf(b);
        tape.addBytesOf(c);
        tape.addBytesOf(d);
        tape.addBytesOf(e);
        return tape.length;
    }

    public boolean end(int n) {
        if (!within(n, 0, tape.length)) {
            return false;
        }
        tape.length = n;
        return true;
    }

    public int fault() {
        return reader.read(spareContract);
    }

    public boolean contract(int maker) {
        if (!within(maker, 0, MAKERS - 1) || reader.read(spareContract) != NONE) {
            return false;
        }
        // The old one becomes the spare, so that at most one for each MAKER is ever made.
        Contract old = contracts[maker];
        contracts[maker] = spareContract;
        spareContract = old == null ? new Contract() : old;
        tape.length = 0;
        return true;
    }

    public int draw(int lot, int k, long seed) {
        Lot of = lots.numbered(lot);
        if (of == null || of.mark != lot || of.isDrawn) {
            return NONE;
        }
        if (!within(k, 0, Math.min(MOST_DRAWN, of.casksAtFirst))) {
            return NONE;
        }
        int bad = line.badDrawn(of, k, seed);
        of.isDrawn = true;
        of.owing = of.price;
        Contract contract = contracts[of.maker];
        if (contract != null) {
            of.owing += contract.sum(bad, k, of.casksAtFirst, now - of.made);
        }
        return bad;
    }

    public int due(int lot) {
        Lot of = lots.numbered(lot);
        return of == null ? 0 : of.owing;
    }

    public int owed(int maker) {
        int sum = 0;
        for (Lot of = lots.oldest; of != null; of = of.next) {
            if (of.maker == maker) {
                sum += of.owing;
            }
        }
        return sum;
    }

    public int condemned(int mark) {
        Lot of = lots.numbered(mark);
        return of == null ? 0 : of.lost;
    }

    public int survey(int place, int kind, int week, int found) {
        Store store = storeOf(place, kind);
        if (store == null || !within(week, 0, now) || !within(found, 0, MOST_FOUND)) {
            return NO_BALANCE;
        }
        if (surveysTold >= MOST_SURVEYS) {
            return NO_BALANCE;
        }
        surveysTold++;
        int difference = found - stockAsBegan(store, week);
        store.noteSurvey(week, difference);
        return difference;
    }

    public int balance(int place, int kind) {
        Store store = storeOf(place, kind);
        return store == null ? NO_BALANCE : store.forgivenBalance();
    }

    public int began(int place, int kind, int week) {
        Store store = storeOf(place, kind);
        return store == null ? NONE : stockAsBegan(store, week);
    }

    public int count(int what) {
        switch (what) {
            case 0: return now;
            case 1: return lots.many;
            case 2: return casksBought;
            case 3: return lots.casksInAll();
            case 4: return casksCondemned;
            case 5: return casksOpened;
            case 6: return surveysTold;
            case 7: return tape.length;
            default: return NONE;
        }
    }

    private static boolean within(int number, int least, int most) {
        return least <= number && number <= most;
    }

    private static int bytesIn(int number) {
        int many = 0;
        for (int i = 0; i < BYTES_OF_A_NUMBER; i++) {
            if (byteOf(number, i) != 0) {
                many++;
            }
        }
        return many;
    }

    private static int byteOf(int number, int i) {
        return number >>> 8 * (BYTES_OF_A_NUMBER - 1 - i) & 255;
    }

    private Place placeOf(int place) {
        return within(place, 0, PLACES - 1) ? places[place] : null;
    }

    private Kind kindOf(int kind) {
        return within(kind, 0, KINDS - 1) ? kinds[kind] : null;
    }

    private Store storeOf(int place, int kind) {
        if (!within(place, 0, PLACES - 1) || !within(kind, 0, KINDS - 1)) {
            return null;
        }
        return stores[place * KINDS + kind];
    }

    private int stockAsBegan(Store store, int week) {
        if (!within(week, 0, now) || stocksAsBegan[week] == null) {
            return NONE;
        }
        return stocksAsBegan[week][store.number];
    }

    private void bringIn() {
        for (Lot of = lots.oldest; of != null; of = of.next) {
            if (of.isThereBy(now)) {
                of.coming = NONE;
            }
        }
    }

    private void condemnSpoilt() {
        for (Lot of = lots.oldest; of != null; of = of.next) {
            int loss = of.store.kind.loss(of.casks, now - of.made, !of.isThere());
            of.casks -= loss;
            casksCondemned += loss;
            Lot bought = lots.numbered(of.mark);
            if (bought != null) {
                bought.lost += loss;
            }
        }
    }

    private void eat() {
        for (Store store : stores) {
            store.table.sitDown(store.place.wants());
        }
        for (Lot of = lots.oldest; of != null; of = of.next) {
            if (of.isThere()) {
                int many = of.store.table.openFrom(of.casks, of.store.kind.rations);
                of.casks -= many;
                of.store.opened += many;
                casksOpened += many;
            }
        }
        for (Store store : stores) {
            store.lacked += store.table.wanting;
        }
    }

    private void writeStocks() {
        int[] stocks = new int[STORES];
        for (Lot of = lots.oldest; of != null; of = of.next) {
            if (of.isThere()) {
                stocks[of.store.number] += of.casks;
            }
        }
        stocksAsBegan[now] = stocks;
    }

    private void beginTrial(int place) {
        for (int k = 0; k < KINDS; k++) {
            Store store = storeOf(place, k);
            if (store != null) {
                store.trialTable.left = store.table.left;
            }
        }
        for (Lot of = lots.oldest; of != null; of = of.next) {
            of.trialCasks = of.store.place.number == place ? of.casks : 0;
        }
    }

    private boolean isShortInTrial(int place, int week) {
        for (int k = 0; k < KINDS; k++) {
            Store store = storeOf(place, k);
            if (store != null) {
                store.trialTable.sitDown(store.place.wants());
            }
        }
        for (Lot of = lots.oldest; of != null; of = of.next) {
            if (of.trialCasks > 0) {
                of.endWeekInTrial(week);
            }
        }
        for (int k = 0; k < KINDS; k++) {
            Store store = storeOf(place, k);
            if (store != null && store.trialTable.wanting > 0) {
                return true;
            }
        }
        return false;
    }

    private static final class Place {
        final int number;
        int men;
        int lag;

        Place(int number) {
            this.number = number;
        }

        int wants() {
            return RATIONS_A_MAN * men;
        }
    }

    private static final class Kind {
        final int number;
        final int[] parts;
        int rations;

        Kind(int number) {
            this.number = number;
            parts = new int[LAST_AGE + 1];
            rations = FIRST_RATIONS;
        }

        int loss(int casks, int weeks, boolean atSea) {
            int age = Math.max(0, Math.min(LAST_AGE, weeks / WEEKS_AN_AGE));
            int part = atSea ? Math.min(WHOLE, 2 * parts[age]) : parts[age];
            return casks * part / WHOLE;
        }
    }

    /** What is OPEN of a KIND, and how many RATIONS are still wanted of it in a WEEK. */
    private static final class Table {
        int left;
        int wanting;

        void sitDown(int rations) {
            int eaten = Math.min(left, rations);
            left -= eaten;
            wanting = rations - eaten;
        }

        /** How many of these casks are opened. */
        int openFrom(int casks, int rations) {
            if (wanting <= 0 || casks <= 0 || rations <= 0) {
                return 0;
            }
            int many = Math.min(casks, (wanting + rations - 1) / rations);
            int had = many * rations;
            left = Math.max(0, had - wanting);
            wanting = Math.max(0, wanting - had);
            return many;
        }
    }

    /** What a PLACE has, and had, of a KIND. */
    private static final class Store {
        final int number;
        final Place place;
        final Kind kind;
        final Table table;
        final Table trialTable;
        int opened;
        int lacked;
        Survey surveys;

        Store(int number, Place place, Kind kind) {
            this.number = number;
            this.place = place;
            this.kind = kind;
            table = new Table();
            trialTable = new Table();
        }

        void noteSurvey(int week, int difference) {
            for (Survey told = surveys; told != null; told = told.next) {
                if (told.week == week) {
                    told.difference = difference;
                    return;
                }
            }
            surveys = new Survey(week, difference, surveys);
        }

        int forgivenBalance() {
            int sum = 0;
            for (Survey told = surveys; told != null; told = told.next) {
                sum += told.difference;
            }
            return sum < 0 ? Math.min(0, sum + opened / FORGIVEN_ONE_OF) : sum;
        }
    }

    /** The SURVEY told last for a WEEK. */
    private static final class Survey {
        final int week;
        final Survey next;
        int difference;

        Survey(int week, int difference, Survey next) {
            this.week = week;
            this.difference = difference;
            this.next = next;
        }
    }

    private static final class Lot {
        // A LOT never leaves its PLACE (what is sent is another one), so this holds for good.
        final Store store;
        final int maker;
        final int made;
        final int grade;
        final int mark;
        final int casksAtFirst;
        int casks;
        int coming;
        int price;
        boolean isDrawn;
        int owing;
        int lost;
        int trialCasks;
        Lot next;

        Lot(Store store, int maker, int made, int grade, int mark, int casks, int coming) {
            this.store = store;
            this.maker = maker;
            this.made = made;
            this.grade = grade;
            this.mark = mark;
            this.casksAtFirst = casks;
            this.casks = casks;
            this.coming = coming;
        }

        boolean isThere() {
            return coming == NONE;
        }

        boolean isThereBy(int week) {
            return coming == NONE || coming <= week;
        }

        int told(int what) {
            switch (what) {
                case 0: return maker;
                case 1: return store.kind.number;
                case 2: return made;
                case 3: return casks;
                case 4: return store.place.number;
                case 5: return coming;
                case 6: return grade;
                case 7: return mark;
                default: return NONE;
            }
        }

        void endWeekInTrial(int week) {
            boolean there = isThereBy(week);
            trialCasks -= store.kind.loss(trialCasks, week - made, !there);
            if (there) {
                trialCasks -= store.trialTable.openFrom(trialCasks, store.kind.rations);
            }
        }
    }

    /** All LOTS, by their numbers and in a chain in the order in which they are eaten. */
    private static final class Lots {
        final Lot[] byNumber;
        int many;
        Lot oldest;

        Lots() {
            byNumber = new Lot[MOST_LOTS];
        }

        boolean isFull() {
            return many >= MOST_LOTS;
        }

        Lot numbered(int number) {
            return within(number, 0, many - 1) ? byNumber[number] : null;
        }

        int enter(Lot lot) {
            if (isFull()) {
                return NONE;
            }
            int number = many;
            byNumber[number] = lot;
            many++;
            putInChain(lot);
            return number;
        }

        // The newest number goes behind all that were made in the same WEEK or ahead of it.
        // None was made ahead of the oldest: what is sent was made with a LOT of the chain.
        private void putInChain(Lot lot) {
            if (oldest == null) {
                oldest = lot;
                return;
            }
            Lot ahead = oldest;
            while (ahead.next != null && ahead.next.made <= lot.made) {
                ahead = ahead.next;
            }
            lot.next = ahead.next;
            ahead.next = lot;
        }

        int casksAt(Store store) {
            int sum = 0;
            for (Lot lot = oldest; lot != null; lot = lot.next) {
                if (lot.store == store && lot.isThere()) {
                    sum += lot.casks;
                }
            }
            return sum;
        }

        int casksInAll() {
            int sum = 0;
            for (Lot lot = oldest; lot != null; lot = lot.next) {
                sum += lot.casks;
            }
            return sum;
        }
    }

    private static final class Tape {
        final int[] bytes;
        int length;

        Tape() {
            bytes = new int[MOST_BYTES];
        }

        void addBytesOf(int number) {
            for (int i = 0; i < BYTES_OF_A_NUMBER; i++) {
                int next = byteOf(number, i);
                if (next != 0 && length < MOST_BYTES) {
                    bytes[length] = next;
                    length++;
                }
            }
        }

        int byteAt(int at) {
            return within(at, 0, length - 1) ? bytes[at] : NONE;
        }
    }

    /** CLAUSES, each in the same place of four rows. */
    private static final class Contract {
        final int[] letters;
        final int[] signs;
        final int[] numbers;
        final int[] amounts;
        int many;

        Contract() {
            letters = new int[MOST_CLAUSES];
            signs = new int[MOST_CLAUSES];
            numbers = new int[MOST_CLAUSES];
            amounts = new int[MOST_CLAUSES];
        }

        void add(int letter, int sign, int number, int amount) {
            if (many >= MOST_CLAUSES) {
                return;
            }
            letters[many] = letter;
            signs[many] = sign;
            numbers[many] = number;
            amounts[many] = amount;
            many++;
        }

        int sum(int bad, int drawn, int bought, int weeks) {
            int sum = 0;
            for (int i = 0; i < many && i < MOST_CLAUSES; i++) {
                int fact = factOf(letters[i], bad, drawn, bought, weeks);
                if (holds(fact, signs[i], numbers[i])) {
                    sum += amounts[i];
                }
            }
            return sum;
        }

        private static int factOf(int letter, int bad, int drawn, int bought, int weeks) {
            switch (letter) {
                case 'b': return bad;
                case 'k': return drawn;
                case 'n': return bought;
                default: return weeks;
            }
        }

        private static boolean holds(int fact, int sign, int number) {
            switch (sign) {
                case '<': return fact < number;
                case '>': return fact > number;
                default: return fact == number;
            }
        }
    }

    /** Reads a TAPE; where reading stops, 'at' is the FAULT. */
    private static final class Reader {
        private final Tape tape;
        private int at;

        Reader(Tape tape) {
            this.tape = tape;
        }

        /** The FAULT, or NONE; the CLAUSES are put into the CONTRACT. */
        int read(Contract into) {
            at = 0;
            into.many = 0;
            skipBlanks();
            if (here() == NONE) {
                return NONE;
            }
            for (int i = 0; i < MOST_CLAUSES; i++) {
                if (!readClause(into)) {
                    return at;
                }
                skipBlanks();
                if (here() == NONE) {
                    return NONE;
                }
                if (!pass(';')) {
                    return at;
                }
            }
            return at;
        }

        private boolean readClause(Contract into) {
            skipBlanks();
            int letter = here();
            if (!pass('b') && !pass('k') && !pass('n') && !pass('g')) {
                return false;
            }
            skipBlanks();
            int sign = here();
            if (!pass('=') && !pass('<') && !pass('>')) {
                return false;
            }
            skipBlanks();
            int number = readDigits();
            if (number == NONE) {
                return false;
            }
            skipBlanks();
            if (!pass(':')) {
                return false;
            }
            skipBlanks();
            boolean isBelow = pass('-');
            int amount = readDigits();
            if (amount == NONE) {
                return false;
            }
            into.add(letter, sign, number, isBelow ? -amount : amount);
            return true;
        }

        /** One to five digits; a sixth is left standing, where nothing can go on. */
        private int readDigits() {
            int start = at;
            int number = 0;
            while (at < start + MOST_DIGITS && within(here(), '0', '9')) {
                number = number * 10 + here() - '0';
                at++;
            }
            return at == start ? NONE : number;
        }

        private void skipBlanks() {
            while (at < tape.length && here() == ' ') {
                at++;
            }
        }

        private boolean pass(int one) {
            if (here() != one) {
                return false;
            }
            at++;
            return true;
        }

        private int here() {
            return tape.byteAt(at);
        }
    }

    /**
     * The line of numbers that DRAWING goes through. Only the places whose number has changed are
     * kept: at most one a cask drawn, where the whole line would have thousands.
     */
    private static final class Line {
        private final int[] places;
        private final int[] numbers;
        private int changed;

        Line() {
            places = new int[MOST_DRAWN];
            numbers = new int[MOST_DRAWN];
        }

        int badDrawn(Lot lot, int k, long seed) {
            changed = 0;
            int bad = 0;
            long x = seed;
            for (int j = 0; j < k && j < lot.casksAtFirst; j++) {
                x = x * DRAW_FACTOR + DRAW_STEP;
                int place = j + (int) ((x >>> DRAW_SHIFT) % (lot.casksAtFirst - j));
                int drawn = numberIn(place);
                put(place, numberIn(j));
                if (drawn % GRADES_ROUND < lot.grade) {
                    bad++;
                }
            }
            return bad;
        }

        private int numberIn(int place) {
            for (int i = 0; i < changed && i < MOST_DRAWN; i++) {
                if (places[i] == place) {
                    return numbers[i];
                }
            }
            return place;
        }

        // What comes to place j itself is drawn and never looked at again, so it need not be kept.
        private void put(int place, int number) {
            for (int i = 0; i < changed && i < MOST_DRAWN; i++) {
                if (places[i] == place) {
                    numbers[i] = number;
                    return;
                }
            }
            if (changed < MOST_DRAWN) {
                places[changed] = place;
                numbers[changed] = number;
                changed++;
            }
        }
    }
}
