/**
 * Names on loan for the winter: who wears whose name, how thin frost wears it,
 * to whom it had better be given, and how all names come home at the thaw.
 *
 * All rows are made with the object and used again, so that no call makes anything.
 */
public final class NamesOnLoan {
    public static final int BAD = -1, NOT = -2, FULL = -3, STATE = -5, VOID = -2000000000;

    private static final int MISSING = -11, OTHER_KIND = -12, NO_PLACE = -13, SIZE_BELOW_0 = -14;
    private static final int MOST_PEOPLE = 8, MOST_DAYS = 99, MOST_TRIED = 5;
    private static final int SYLLABLES = 0, OUT = 1, COATS = 2, HOUSE = 3, COLD = 4, FIRE = 5;
    private static final int FIRST_COATS = 4, FIRST_COLD = 2, FIRST_LEFT = 100;
    private static final int MOST_OWED_AT_ONCE = 99, MOST_DEBT = 9999;
    private static final int MOST_WINTERS = 20, COLDS = 10, SHELVES = 6;
    // each more than five of the next can come to, LEFT of a NAME being 999 at most
    private static final int BURNT_COST = 100000, CRACKED_COST = 10000, LEFT_COST = 1000;

    private final Folk folk;
    private final Deeds deeds;
    private final Deeds kept;
    private boolean hasImage;
    private final Tape tape;
    private final Law frostLaw;
    private final Ways ways;
    private final Changes changes;
    private final Acts acts;
    private final Shelf[] shelves;
    private final int[] trial;
    private final int[] ratesByCold;

    public NamesOnLoan() {
        folk = new Folk();
        deeds = new Deeds();
        kept = new Deeds();
        hasImage = false;
        tape = new Tape();
        frostLaw = new Law();
        ways = new Ways();
        changes = new Changes();
        acts = new Acts();
        shelves = new Shelf[SHELVES];
        for (int i = 0; i < SHELVES; i++) {
            shelves[i] = new Shelf();
        }
        trial = new int[MOST_PEOPLE];
        ratesByCold = new int[MOST_PEOPLE * COLDS];
    }

    // ---- people

    public int person(int syllables, int out) {
        if (!Folk.fits(SYLLABLES, syllables) || !Folk.fits(OUT, out)) {
            return BAD;
        }
        return folk.isFull() ? FULL : folk.welcome(syllables, out, FIRST_COATS);
    }

    public int people(int shelf, int i, int n) {
        if (!isShelf(shelf) || n < 1 || n > MOST_PEOPLE) {
            return BAD;
        }
        Shelf from = shelves[shelf];
        if (!from.isEmpty() && !from.isOfBytes()) {
            return OTHER_KIND;
        }
        int came = 0;
        while (came < n && comesFrom(from, i + 3 * came)) {
            came++;
        }
        return came;
    }

    private boolean comesFrom(Shelf from, int place) {
        if (folk.isFull() || !from.hasPlaces(place, 3)) {
            return false;
        }
        int syllables = from.number(place);
        int out = from.number(place + 1);
        int coats = from.number(place + 2);
        if (!Folk.fits(SYLLABLES, syllables) || !Folk.fits(OUT, out) || !Folk.fits(COATS, coats)) {
            return false;
        }
        folk.welcome(syllables, out, coats);
        return true;
    }

    public int mend(int number, int what, int v) {
        if (!folk.tells(number, what) || !Folk.fits(what, v)) {
            return BAD;
        }
        int was = folk.told(number, what);
        if (was != v) {
            folk.tell(number, what, v);
            changes.add(number, what, was, v);
        }
        return was;
    }

    public int of(int number, int what) {
        if (what >= SYLLABLES && what <= FIRE) {
            return folk.tells(number, what) ? folk.told(number, what) : BAD;
        }
        if (!folk.has(number)) {
            return BAD;
        }
        switch (what) {
            case 10:
                return deeds.wearerOf(number);
            case 11:
                return deeds.leftOf(number);
            case 12:
                return cracks(number, deeds.leftOf(number)) ? 1 : 0;
            case 13:
                return deeds.wornBy(number);
            default:
                return BAD;
        }
    }

    public int feed(int letter) {
        if (letter < 0 || letter > 255) {
            return BAD;
        }
        return tape.isFull() ? FULL : tape.add(letter);
    }

    public int law() {
        int fault = tape.read();
        if (fault == Tape.NO_FAULT) {
            tape.handTo(frostLaw);
        }
        tape.clear();
        return fault == Tape.NO_FAULT ? 1 : -100 - fault;
    }

    public int burns(int name) {
        return folk.has(name) ? rateNow(name) : BAD;
    }

    // ---- winters in thought

    public int left(int name, int n) {
        return folk.has(name) && isTo99(n) ? leftAfter(name, n) : BAD;
    }

    public int winter(int n, int what) {
        if (!isTo99(n) || what < 0 || what > 2) {
            return BAD;
        }
        int sum = 0;
        for (int name = 0; name < folk.size(); name++) {
            int rest = leftAfter(name, n);
            if (what == 2) {
                sum += rest;
            } else if (what == 1 ? rest == 0 : cracks(name, rest)) {
                sum++;
            }
        }
        return sum;
    }

    public int when(int name, int what) {
        if (!folk.has(name) || what < 0 || what > 1) {
            return BAD;
        }
        return firstDay(name, what == 1);
    }

    public int last() {
        int first = NOT;
        int firstDay = MOST_DAYS + 1;
        for (int name = 0; name < folk.size(); name++) {
            int day = firstDay(name, true);
            if (day != NOT && day < firstDay) {
                first = name;
                firstDay = day;
            }
        }
        return first;
    }

    public int give(int name, int n, int what) {
        if (!folk.has(name) || !isTo99(n) || what < 0 || what > 1) {
            return BAD;
        }
        int best = NOT;
        int most = -1;
        for (int one = 0; one < folk.size(); one++) {
            boolean wears = deeds.wearerOf(name) == one;
            if (!wears && !mayWearMore(one)) {
                continue;
            }
            int worn = deeds.wornBy(one) + (wears ? 0 : 1);
            int rate = rate(name, one, worn, folk.cold());
            int rest = deeds.leftBy(name, rate, n);
            if (rest > most) {
                best = one;
                most = rest;
            }
        }
        return what == 0 ? best : most;
    }

    public int allLast(int n, int what) {
        if (!isTo99(n) || what < -2 || what >= folk.size()) {
            return BAD;
        }
        if (folk.size() > MOST_TRIED) {
            return STATE;
        }
        beginWays(n, null);
        int best = Ways.WORST;
        int total = ways.total();
        for (int k = 0; k < total; k++) {
            int cost = ways.fits() ? ways.cost() : Ways.WORST;
            if (cost < best) {
                best = cost;
                ways.markFirst();
            }
            ways.goOn();
        }
        if (best == Ways.WORST) {
            return NOT;
        }
        if (what >= 0) {
            return ways.firstWearer(what);
        }
        return what == -1 ? best / BURNT_COST : LEFT_COST * folk.size() - best % CRACKED_COST;
    }

    public int fewest(int n) {
        if (!isTo99(n)) {
            return BAD;
        }
        if (folk.size() > MOST_TRIED) {
            return STATE;
        }
        beginWays(n, null);
        int least = MOST_PEOPLE + 1;
        int total = ways.total();
        for (int k = 0; k < total; k++) {
            if (ways.wearers() < least && ways.fits() && ways.cost() < BURNT_COST) {
                least = ways.wearers();
            }
            ways.goOn();
        }
        return least > MOST_PEOPLE ? NOT : least;
    }

    /**
     * Costs are told ahead for every wearer and count, since thousands of ways ask for them:
     * by days, or, where something is signed, by how many threes are not so.
     */
    private void beginWays(int n, Shelf signed) {
        ways.begin(folk.size());
        for (int one = 0; one < folk.size(); one++) {
            ways.setCoats(one, folk.told(one, COATS));
            for (int name = 0; name < folk.size(); name++) {
                for (int many = 1; many <= folk.size(); many++) {
                    int rate = rate(name, one, many, folk.cold());
                    int cost = signed == null ? costAfter(name, rate, n) : threesNotSo(signed, name, one, rate);
                    ways.setCost(name, one, many, cost);
                }
            }
        }
    }

    /** A sum of these is less for the better way: fewer burnt, then fewer cracked, then more left. */
    private int costAfter(int name, int rate, int n) {
        int rest = deeds.leftBy(name, rate, n);
        int cost = LEFT_COST - rest;
        cost += cracks(name, rest) ? CRACKED_COST : 0;
        cost += rest == 0 ? BURNT_COST : 0;
        return cost;
    }

    // ---- thaw, letters, debts

    public int thaws(int name) {
        if (name == -1) {
            return minutesOfThaw();
        }
        return folk.has(name) ? deeds.minuteHome(name) : BAD;
    }

    private int minutesOfThaw() {
        int minutes = 0;
        for (int name = 0; name < folk.size(); name++) {
            minutes = Math.max(minutes, deeds.minuteHome(name));
        }
        return minutes;
    }

    public int ring(int one, int what) {
        if (!folk.has(one) || what < 0 || what > 1) {
            return BAD;
        }
        int start = one;
        for (int k = 0; k < folk.size(); k++) {
            start = deeds.wearerOf(start);
        }
        // after as many steps as there are people, one is in the round for certain
        int size = 1;
        boolean met = start == one;
        int at = deeds.wearerOf(start);
        for (int k = 0; k < MOST_PEOPLE && at != start; k++) {
            size++;
            met = met || at == one;
            at = deeds.wearerOf(at);
        }
        if (what == 0) {
            return size;
        }
        return met ? 1 : 0;
    }

    public int crowd(int what) {
        if (what < 0 || what > 1) {
            return BAD;
        }
        int who = NOT;
        int most = 0;
        for (int one = 0; one < folk.size(); one++) {
            int worn = deeds.wornBy(one);
            if (worn > most) {
                who = one;
                most = worn;
            }
        }
        return what == 0 ? most : who;
    }

    public int letter(int name, int k, int what) {
        if (!folk.has(name) || !isTo99(k) || what < 0 || what > 1) {
            return BAD;
        }
        int who = deeds.wearerOf(name);
        int seen = 1 << who;
        for (int sent = 0; sent < k; sent++) {
            who = deeds.wearerOf(who);
            seen |= 1 << who;
        }
        return what == 0 ? who : Integer.bitCount(seen);
    }

    public int owe(int ab, int n) {
        if (ab < 0 || n < -MOST_OWED_AT_ONCE || n > MOST_OWED_AT_ONCE) {
            return BAD;
        }
        int a = ab / 10;
        int b = ab % 10;
        if (!folk.has(a) || !folk.has(b) || a == b) {
            return BAD;
        }
        int sum = deeds.debtOf(a, b) + n;
        if (sum < 0 || sum > MOST_DEBT) {
            return STATE;
        }
        deeds.setDebt(a, b, sum);
        return sum;
    }

    public int debt(int name) {
        if (name == -1) {
            return allThatSleeps();
        }
        if (!folk.has(name)) {
            return BAD;
        }
        int sum = 0;
        for (int b = 0; b < folk.size(); b++) {
            sum += deeds.sleeps(name, b) ? 0 : deeds.debtOf(name, b);
        }
        return sum;
    }

    private int allThatSleeps() {
        int sum = 0;
        for (int a = 0; a < folk.size(); a++) {
            for (int b = 0; b < folk.size(); b++) {
                sum += deeds.sleeps(a, b) ? deeds.debtOf(a, b) : 0;
            }
        }
        return sum;
    }

    public int doors(int n) {
        if (!isTo99(n)) {
            return BAD;
        }
        int best = NOT;
        int most = 0;
        for (int a = 0; a < folk.size(); a++) {
            for (int b = a + 1; b < folk.size(); b++) {
                int gain = gainOfExchange(a, b, n);
                if (gain > most) {
                    best = 10 * a + b;
                    most = gain;
                }
            }
        }
        return best;
    }

    /** An exchange leaves every count of names worn as it is, so only the two names fare otherwise. */
    private int gainOfExchange(int a, int b, int n) {
        int wearerOfA = deeds.wearerOf(a);
        int wearerOfB = deeds.wearerOf(b);
        int before = leftWith(a, wearerOfA, n) + leftWith(b, wearerOfB, n);
        return leftWith(a, wearerOfB, n) + leftWith(b, wearerOfA, n) - before;
    }

    private int leftWith(int name, int wearer, int n) {
        int rate = rate(name, wearer, deeds.wornBy(wearer), folk.cold());
        return deeds.leftBy(name, rate, n);
    }

    // ---- signed, drawn

    public int judge(int shelf) {
        int refusal = refusalOfBytes(shelf);
        if (refusal != 0) {
            return refusal;
        }
        Shelf signed = shelves[shelf];
        for (int place = 0; place < signed.size(); place += 3) {
            int name = signed.number(place + 1);
            if (!isThree(signed, place) || !isSo(signed, place, deeds.wearerOf(name), rateNow(name))) {
                return place / 3;
            }
        }
        return NOT;
    }

    /** Whether a three is whole, of a DAY and a NAME that there are. */
    private boolean isThree(Shelf signed, int place) {
        return signed.hasPlaces(place, 3) && isTo99(signed.number(place)) && folk.has(signed.number(place + 1));
    }

    private boolean isSo(Shelf signed, int place, int wearer, int rate) {
        int day = signed.number(place);
        int name = signed.number(place + 1);
        return signed.number(place + 2) == wearer && deeds.leftBy(name, rate, day) > 0;
    }

    public int wore(int shelf, int name) {
        if (name != -1 && !folk.has(name)) {
            return BAD;
        }
        int refusal = refusalOfBytes(shelf);
        if (refusal != 0) {
            return refusal;
        }
        if (folk.size() > MOST_TRIED) {
            return STATE;
        }
        Shelf signed = shelves[shelf];
        int found = areThrees(signed) ? waysThatMakeSo(signed) : 0;
        if (name == -1) {
            return found;
        }
        return found == 0 ? NOT : ways.firstWearer(name);
    }

    private boolean areThrees(Shelf signed) {
        for (int place = 0; place < signed.size(); place += 3) {
            if (!isThree(signed, place)) {
                return false;
            }
        }
        return true;
    }

    private int waysThatMakeSo(Shelf signed) {
        beginWays(0, signed);
        int found = 0;
        int total = ways.total();
        for (int k = 0; k < total; k++) {
            if (ways.fits() && ways.cost() == 0) {
                if (found == 0) {
                    ways.markFirst();
                }
                found++;
            }
            ways.goOn();
        }
        return found;
    }

    private int threesNotSo(Shelf signed, int name, int wearer, int rate) {
        int sum = 0;
        for (int place = 0; place < signed.size(); place += 3) {
            if (signed.number(place + 1) == name && !isSo(signed, place, wearer, rate)) {
                sum++;
            }
        }
        return sum;
    }

    public int drawn(int seed, int nm, int name) {
        int winters = nm / 100;
        int days = nm % 100;
        if (winters < 1 || winters > MOST_WINTERS || days < 1) {
            return BAD;
        }
        if (name != -1 && !folk.has(name)) {
            return BAD;
        }
        int from = name == -1 ? 0 : name;
        int to = name == -1 ? folk.size() : name + 1;
        fillRatesByCold(from, to);
        int z = seed;
        int sum = 0;
        for (int k = 0; k < winters; k++) {
            deeds.copyLeft(trial);
            z = drawWinter(z, days, from, to);
            for (int one = from; one < to; one++) {
                sum += name >= 0 ? trial[one] : trial[one] == 0 ? 1 : 0;
            }
        }
        return sum;
    }

    private void fillRatesByCold(int from, int to) {
        for (int name = from; name < to; name++) {
            int wearer = deeds.wearerOf(name);
            int worn = deeds.wornBy(wearer);
            for (int cold = 0; cold < COLDS; cold++) {
                ratesByCold[name * COLDS + cold] = rate(name, wearer, worn, cold);
            }
        }
    }

    private int drawWinter(int seed, int days, int from, int to) {
        int z = seed;
        for (int day = 0; day < days; day++) {
            z = z * 1103515245 + 12345;
            int cold = (z >>> 8) % COLDS;
            for (int name = from; name < to; name++) {
                trial[name] = Math.max(0, trial[name] - ratesByCold[name * COLDS + cold]);
            }
        }
        return z;
    }

    // ---- in deed

    public int lend(int name, int one) {
        if (!folk.has(name) || !folk.has(one)) {
            return BAD;
        }
        int was = deeds.wearerOf(name);
        if (was == one) {
            return was;
        }
        if (!mayWearMore(one)) {
            return STATE;
        }
        deeds.lendTo(name, one);
        return was;
    }

    public int pass(int n) {
        if (n < 1 || n > MOST_DAYS) {
            return BAD;
        }
        int sum = 0;
        for (int name = 0; name < folk.size(); name++) {
            int rest = leftAfter(name, n);
            deeds.setLeft(name, rest);
            sum += rest;
        }
        deeds.addDays(n);
        return sum;
    }

    public int thaw() {
        int minutes = minutesOfThaw();
        deeds.bringHome();
        return minutes;
    }

    public int led(int what) {
        switch (what) {
            case 0:
                return deeds.days();
            case 1:
                return deeds.lendings();
            case 2:
                return deeds.homecomings();
            case 3:
                return burntNow();
            default:
                return BAD;
        }
    }

    private int burntNow() {
        int sum = 0;
        for (int name = 0; name < folk.size(); name++) {
            sum += deeds.leftOf(name) == 0 ? 1 : 0;
        }
        return sum;
    }

    public int image() {
        kept.copyFrom(deeds);
        hasImage = true;
        return deeds.days();
    }

    public int back() {
        if (!hasImage) {
            return STATE;
        }
        deeds.copyFrom(kept);
        return deeds.days();
    }

    public int undo() {
        return changes.mayGoBack() == 0 ? STATE : changes.goBack(folk);
    }

    public int redo() {
        return changes.mayGoOn() == 0 ? STATE : changes.goOn(folk);
    }

    // ---- acts, shelves

    public int body(int kind) {
        if (!Acts.isKind(kind)) {
            return BAD;
        }
        return acts.isFull() ? FULL : acts.add(kind);
    }

    public int act(int body, int act, int x) {
        return acts.start(body, act, x);
    }

    public int trace(int i) {
        return acts.hasTrace(i) ? acts.traced(i) : BAD;
    }

    public int keep(int shelf, int body) {
        if (!isShelf(shelf) || body != -1 && !acts.has(body)) {
            return BAD;
        }
        if (body == -1) {
            shelves[shelf].holdNothing();
        } else {
            shelves[shelf].holdName(body);
        }
        return 1;
    }

    public int row(int shelf, int sort, int n) {
        if (!isShelf(shelf) || !Shelf.isSort(sort) || n > Shelf.MOST) {
            return BAD;
        }
        if (n < 0) {
            return SIZE_BELOW_0;
        }
        shelves[shelf].holdRow(sort, n);
        return 1;
    }

    public int put(int shelf, int i, long v) {
        int refusal = refusalOfPlace(shelf, i);
        if (refusal != 0) {
            return refusal;
        }
        shelves[shelf].set(i, v);
        return 1;
    }

    public long element(int shelf, int i) {
        return refusalOfPlace(shelf, i) == 0 ? shelves[shelf].get(i) : Long.MIN_VALUE;
    }

    public int shift(int shelf, int i, int other, int j, int n) {
        if (!isShelf(shelf) || !isShelf(other)) {
            return BAD;
        }
        Shelf from = shelves[shelf];
        Shelf to = shelves[other];
        if (from.isEmpty() || to.isEmpty()) {
            return MISSING;
        }
        if (!from.isRow() || !from.isLike(to)) {
            return OTHER_KIND;
        }
        if (!from.hasPlaces(i, n) || !to.hasPlaces(j, n)) {
            return NO_PLACE;
        }
        to.setAll(j, from, i, n);
        return n;
    }

    public int taken(int shelf, int k) {
        if (!isShelf(shelf) || !Acts.isKind(k)) {
            return BAD;
        }
        Shelf from = shelves[shelf];
        if (from.isEmpty()) {
            return MISSING;
        }
        if (!from.isName() || !acts.isUnder(from.name(), k)) {
            return OTHER_KIND;
        }
        return acts.kindOf(from.name());
    }

    public int count(int what) {
        switch (what) {
            case 0:
                return folk.size();
            case 1:
                return deeds.given();
            case 2:
                return tape.length();
            case 3:
                return changes.mayGoBack();
            case 4:
                return acts.size();
            case 5:
                return acts.ran();
            default:
                return BAD;
        }
    }

    // ---- what several calls ask

    private static boolean isTo99(int n) {
        return n >= 0 && n <= 99;
    }

    private static boolean isShelf(int shelf) {
        return shelf >= 0 && shelf < SHELVES;
    }

    private boolean mayWearMore(int one) {
        return deeds.wornBy(one) < folk.told(one, COATS);
    }

    private int rate(int name, int wearer, int worn, int cold) {
        boolean staysIn = folk.told(wearer, HOUSE) == 1;
        int out = staysIn ? 0 : folk.told(wearer, OUT);
        int fire = staysIn ? folk.told(0, FIRE) : 0;
        int given = wearer == name ? 0 : 1;
        return frostLaw.burnt(folk.told(name, SYLLABLES), out, worn, cold, fire, given);
    }

    private int rateNow(int name) {
        int wearer = deeds.wearerOf(name);
        return rate(name, wearer, deeds.wornBy(wearer), folk.cold());
    }

    /** While wearers stay, all days are alike: one day's rate tells them all. */
    private int leftAfter(int name, int days) {
        return deeds.leftBy(name, rateNow(name), days);
    }

    private boolean cracks(int name, int rest) {
        return rest < 10 * folk.told(name, SYLLABLES);
    }

    private int firstDay(int name, boolean burnt) {
        int rate = rateNow(name);
        for (int day = 0; day <= MOST_DAYS; day++) {
            int rest = deeds.leftBy(name, rate, day);
            if (burnt ? rest == 0 : cracks(name, rest)) {
                return day;
            }
        }
        return NOT;
    }

    /** 0, if a shelf holds a row of bytes. */
    private int refusalOfBytes(int shelf) {
        if (!isShelf(shelf)) {
            return BAD;
        }
        if (shelves[shelf].isEmpty()) {
            return MISSING;
        }
        return shelves[shelf].isOfBytes() ? 0 : OTHER_KIND;
    }

    /** 0, if a shelf holds a row with such a place. */
    private int refusalOfPlace(int shelf, int i) {
        if (!isShelf(shelf)) {
            return BAD;
        }
        if (shelves[shelf].isEmpty()) {
            return MISSING;
        }
        if (!shelves[shelf].isRow()) {
            return OTHER_KIND;
        }
        return shelves[shelf].hasPlaces(i, 1) ? 0 : NO_PLACE;
    }

    /** The people, and all numbers that mend() may change. */
    private static final class Folk {
        private static final int[] LOWEST = {1, 0, 1, 0, 0, 0};
        private static final int[] HIGHEST = {9, 9, 9, 1, 9, 9};

        // SYLLABLES, OUT, COATS, HOUSE of all, then COLD and FIRE
        private final int[] numbers;
        private int size;

        Folk() {
            numbers = new int[COLD * MOST_PEOPLE + 2];
            numbers[COLD * MOST_PEOPLE] = FIRST_COLD;
            size = 0;
        }

        static boolean fits(int what, int v) {
            return what >= 0 && what < LOWEST.length && v >= LOWEST[what] && v <= HIGHEST[what];
        }

        int size() {
            return size;
        }

        boolean isFull() {
            return size >= MOST_PEOPLE;
        }

        boolean has(int number) {
            return number >= 0 && number < size;
        }

        /** Whether there is such a number: COLD and FIRE are nobody's, and told with 0. */
        boolean tells(int number, int what) {
            if (what < SYLLABLES || what > FIRE) {
                return false;
            }
            return what < COLD ? has(number) : number == 0;
        }

        private static int placeOf(int number, int what) {
            return what < COLD ? what * MOST_PEOPLE + number : COLD * MOST_PEOPLE + what - COLD;
        }

        int told(int number, int what) {
            return tells(number, what) ? numbers[placeOf(number, what)] : 0;
        }

        void tell(int number, int what, int v) {
            if (tells(number, what)) {
                numbers[placeOf(number, what)] = v;
            }
        }

        int cold() {
            return told(0, COLD);
        }

        int welcome(int syllables, int out, int coats) {
            int number = size;
            size++;
            tell(number, SYLLABLES, syllables);
            tell(number, OUT, out);
            tell(number, COATS, coats);
            return number;
        }
    }

    /**
     * What an image keeps: who wears what, how much is left, debts, and what was led.
     * Names that nobody has yet stand here as they will come (worn by themselves, whole,
     * without debts), so that an image laid back is right for people who came since.
     */
    private static final class Deeds {
        private final int[] wearer;
        private final int[] left;
        private final int[] debts;
        private int days;
        private int lendings;
        private int homecomings;

        Deeds() {
            wearer = new int[MOST_PEOPLE];
            left = new int[MOST_PEOPLE];
            debts = new int[MOST_PEOPLE * MOST_PEOPLE];
            for (int name = 0; name < MOST_PEOPLE; name++) {
                wearer[name] = name;
                left[name] = FIRST_LEFT;
            }
        }

        private static boolean isIn(int name) {
            return name >= 0 && name < MOST_PEOPLE;
        }

        void copyFrom(Deeds other) {
            System.arraycopy(other.wearer, 0, wearer, 0, MOST_PEOPLE);
            System.arraycopy(other.left, 0, left, 0, MOST_PEOPLE);
            System.arraycopy(other.debts, 0, debts, 0, MOST_PEOPLE * MOST_PEOPLE);
            days = other.days;
            lendings = other.lendings;
            homecomings = other.homecomings;
        }

        void copyLeft(int[] to) {
            System.arraycopy(left, 0, to, 0, Math.min(to.length, MOST_PEOPLE));
        }

        int wearerOf(int name) {
            return isIn(name) ? wearer[name] : 0;
        }

        int leftOf(int name) {
            return isIn(name) ? left[name] : 0;
        }

        /** What is left of a name, if so much is burnt on each of so many days. */
        int leftBy(int name, int rate, int manyDays) {
            return isIn(name) ? Math.max(0, left[name] - rate * manyDays) : 0;
        }

        int wornBy(int one) {
            int worn = 0;
            for (int name = 0; name < MOST_PEOPLE; name++) {
                worn += wearer[name] == one ? 1 : 0;
            }
            return worn;
        }

        int given() {
            int sum = 0;
            for (int name = 0; name < MOST_PEOPLE; name++) {
                sum += wearer[name] != name ? 1 : 0;
            }
            return sum;
        }

        /** Each wearer hands back one a minute, the least first: a name waits for those ahead of it. */
        int minuteHome(int name) {
            int who = wearerOf(name);
            if (who == name) {
                return 0;
            }
            int minute = 1;
            for (int ahead = 0; ahead < name && ahead < MOST_PEOPLE; ahead++) {
                minute += wearer[ahead] == who && ahead != who ? 1 : 0;
            }
            return minute;
        }

        int debtOf(int a, int b) {
            return isIn(a) && isIn(b) ? debts[a * MOST_PEOPLE + b] : 0;
        }

        void setDebt(int a, int b, int sum) {
            if (isIn(a) && isIn(b)) {
                debts[a * MOST_PEOPLE + b] = sum;
            }
        }

        boolean sleeps(int a, int b) {
            return wearerOf(a) != a || wearerOf(b) != b;
        }

        void lendTo(int name, int one) {
            if (isIn(name) && isIn(one)) {
                wearer[name] = one;
                lendings++;
            }
        }

        void setLeft(int name, int v) {
            if (isIn(name)) {
                left[name] = v;
            }
        }

        void addDays(int n) {
            days += n;
        }

        void bringHome() {
            for (int name = 0; name < MOST_PEOPLE; name++) {
                wearer[name] = name;
            }
            homecomings++;
        }

        int days() {
            return days;
        }

        int lendings() {
            return lendings;
        }

        int homecomings() {
            return homecomings;
        }
    }

    /** All ways to wear all names, one behind the other, the first name's wearer changing last. */
    private static final class Ways {
        // more than all names can cost together
        static final int WORST = 2 * MOST_TRIED * BURNT_COST;

        private final int[] way;
        private final int[] worn;
        private final int[] coats;
        private final int[] first;
        private final int[] costs;
        private int size;

        Ways() {
            way = new int[MOST_TRIED];
            worn = new int[MOST_TRIED];
            coats = new int[MOST_TRIED];
            first = new int[MOST_TRIED];
            costs = new int[MOST_TRIED * MOST_TRIED * MOST_TRIED];
            size = 0;
        }

        void begin(int people) {
            size = Math.max(0, Math.min(people, MOST_TRIED));
            for (int i = 0; i < size; i++) {
                way[i] = 0;
                worn[i] = i == 0 ? size : 0;
            }
        }

        private boolean has(int one) {
            return one >= 0 && one < size;
        }

        void setCoats(int one, int many) {
            if (has(one)) {
                coats[one] = many;
            }
        }

        void setCost(int name, int one, int many, int cost) {
            if (has(name) && has(one) && has(many - 1)) {
                costs[placeOf(name, one, many)] = cost;
            }
        }

        private static int placeOf(int name, int one, int many) {
            return (name * MOST_TRIED + one) * MOST_TRIED + many - 1;
        }

        int total() {
            int product = 1;
            for (int i = 0; i < size; i++) {
                product *= size;
            }
            return product;
        }

        void goOn() {
            for (int name = size - 1; name >= 0; name--) {
                int was = way[name];
                int next = was + 1 < size ? was + 1 : 0;
                worn[was]--;
                worn[next]++;
                way[name] = next;
                if (next != 0) {
                    return;
                }
            }
        }

        boolean fits() {
            for (int i = 0; i < size; i++) {
                if (worn[i] > coats[i]) {
                    return false;
                }
            }
            return true;
        }

        int wearers() {
            int sum = 0;
            for (int i = 0; i < size; i++) {
                sum += worn[i] > 0 ? 1 : 0;
            }
            return sum;
        }

        int cost() {
            int sum = 0;
            for (int name = 0; name < size; name++) {
                int one = way[name];
                sum += costs[placeOf(name, one, worn[one])];
            }
            return sum;
        }

        void markFirst() {
            System.arraycopy(way, 0, first, 0, size);
        }

        int firstWearer(int name) {
            return has(name) ? first[name] : 0;
        }
    }

    /** THE TAPE, and how it is read: as it is read, steps of a law are written behind one another. */
    private static final class Tape {
        static final int NO_FAULT = -1;
        private static final int MOST = 120;
        private static final int MOST_OPEN = 6;
        private static final int MOST_DIGITS = 4;
        private static final int END = -1;
        private static final int LEVELS = 5, LEVEL_OF_TESTS = 2;

        private final int[] bytes;
        private int length;
        private int place;
        private final int[] steps;
        private int written;

        Tape() {
            bytes = new int[MOST];
            steps = new int[Law.MOST_STEPS];
            length = 0;
        }

        boolean isFull() {
            return length >= MOST;
        }

        int add(int letter) {
            if (length < MOST) {
                bytes[length] = letter;
                length++;
            }
            return length;
        }

        int length() {
            return length;
        }

        void clear() {
            length = 0;
        }

        void handTo(Law law) {
            law.become(steps, written);
        }

        /** Every reader below stops at the first byte it has no use for, so its place is the fault. */
        int read() {
            place = 0;
            written = 0;
            boolean good = readLine();
            for (int k = 0; k < MOST && good && next() == ';'; k++) {
                place++;
                good = readLine();
            }
            return good && next() == END ? NO_FAULT : place;
        }

        private int next() {
            return place >= 0 && place < length ? bytes[place] : END;
        }

        private void write(int step) {
            if (written < steps.length) {
                steps[written] = step;
                written++;
            }
        }

        private boolean readLine() {
            if (!readLevel(0, 0)) {
                return false;
            }
            if (next() != '?') {
                write(Law.LINE_ENDS);
                return true;
            }
            place++;
            if (!readLevel(0, 0)) {
                return false;
            }
            write(Law.CHOICE_ENDS);
            return true;
        }

        /** E, A, B, S and P of the document are levels 0 to 4: each joins parts of the next. */
        private boolean readLevel(int level, int open) {
            if (level >= LEVELS) {
                return readOne(open);
            }
            boolean good = readLevel(level + 1, open);
            int most = level == LEVEL_OF_TESTS ? 1 : MOST;
            for (int k = 0; k < most && good && levelOf(next()) == level; k++) {
                int sign = next();
                place++;
                good = readLevel(level + 1, open);
                write(sign);
            }
            return good;
        }

        private static int levelOf(int sign) {
            switch (sign) {
                case '|':
                    return 0;
                case '&':
                    return 1;
                case '<':
                case '=':
                case '>':
                    return LEVEL_OF_TESTS;
                case '+':
                case '-':
                    return 3;
                case '*':
                case '/':
                case '%':
                    return 4;
                default:
                    return LEVELS;
            }
        }

        private boolean readOne(int open) {
            int sign = next();
            if (isDigit(sign)) {
                readNumber();
                return true;
            }
            int known = Law.valueCalled(sign);
            if (known >= 0) {
                place++;
                write(known);
                return true;
            }
            if (open >= MOST_OPEN || sign != '(' && sign != '!' && sign != '-') {
                return false;
            }
            place++;
            return sign == '(' ? readInside(open + 1) : readTurned(sign, open + 1);
        }

        private boolean readInside(int open) {
            if (!readLevel(0, open) || next() != ')') {
                return false;
            }
            place++;
            return true;
        }

        private boolean readTurned(int sign, int open) {
            if (!readOne(open)) {
                return false;
            }
            write(sign == '!' ? Law.NOT_SO : Law.LESS_THAN_NOTHING);
            return true;
        }

        private static boolean isDigit(int sign) {
            return sign >= '0' && sign <= '9';
        }

        private void readNumber() {
            int number = 0;
            for (int k = 0; k < MOST_DIGITS && isDigit(next()); k++) {
                number = number * 10 + next() - '0';
                place++;
            }
            write(Law.NUMBERS + number);
        }
    }

    /** THE LAW as steps over a pile: below VALUES a step lays down a value, from NUMBERS on a number. */
    private static final class Law {
        static final int MOST_STEPS = 128;
        static final int VALUES = 6;
        static final int NUMBERS = 256;
        static final int LINE_ENDS = ';', CHOICE_ENDS = '?', NOT_SO = '!', LESS_THAN_NOTHING = '~';
        private static final int MOST_BURNT = 99;

        private final int[] steps;
        private final int[] pile;
        private final int[] values;
        private int size;

        Law() {
            steps = new int[MOST_STEPS];
            pile = new int[MOST_STEPS];
            values = new int[VALUES];
            size = 0;
        }

        static int valueCalled(int sign) {
            switch (sign) {
                case 's':
                    return 0;
                case 'o':
                    return 1;
                case 'n':
                    return 2;
                case 'c':
                    return 3;
                case 'f':
                    return 4;
                case 'g':
                    return 5;
                default:
                    return -1;
            }
        }

        void become(int[] other, int many) {
            size = Math.max(0, Math.min(many, Math.min(other.length, MOST_STEPS)));
            System.arraycopy(other, 0, steps, 0, size);
        }

        int burnt(int s, int o, int n, int c, int f, int g) {
            if (size == 0) {
                return held(c * s - o * 2 - f + n - 1);
            }
            values[0] = s;
            values[1] = o;
            values[2] = n;
            values[3] = c;
            values[4] = f;
            values[5] = g;
            return held(workOut());
        }

        private static int held(int v) {
            return Math.max(0, Math.min(MOST_BURNT, v));
        }

        private int workOut() {
            int height = 0;
            for (int k = 0; k < size; k++) {
                int step = steps[k];
                boolean laid = isLaid(step);
                int needed = laid ? 0 : needed(step);
                if (height < needed || height >= MOST_STEPS) {
                    return 0;
                }
                if (laid) {
                    pile[height] = step >= NUMBERS ? step - NUMBERS : values[step];
                    height++;
                } else if (step == LINE_ENDS) {
                    return pile[height - 1];
                } else if (step == NOT_SO || step == LESS_THAN_NOTHING) {
                    pile[height - 1] = turned(step, pile[height - 1]);
                } else if (step != CHOICE_ENDS) {
                    height--;
                    pile[height - 1] = joined(step, pile[height - 1], pile[height]);
                } else if (pile[height - 2] != 0) {
                    return pile[height - 1];
                } else {
                    height -= 2;
                }
            }
            return 0;
        }

        /** How many values a step that lays down none needs on the pile. */
        private static int needed(int step) {
            return step == LINE_ENDS || step == NOT_SO || step == LESS_THAN_NOTHING ? 1 : 2;
        }

        private static boolean isLaid(int step) {
            return step >= NUMBERS || step >= 0 && step < VALUES;
        }

        private static int turned(int sign, int a) {
            if (sign == NOT_SO) {
                return a == 0 ? 1 : 0;
            }
            return -a;
        }

        private static int joined(int sign, int a, int b) {
            switch (sign) {
                case '|':
                    return a != 0 || b != 0 ? 1 : 0;
                case '&':
                    return a != 0 && b != 0 ? 1 : 0;
                case '<':
                    return a < b ? 1 : 0;
                case '=':
                    return a == b ? 1 : 0;
                case '>':
                    return a > b ? 1 : 0;
                case '+':
                    return a + b;
                case '-':
                    return a - b;
                case '*':
                    return a * b;
                case '/':
                    return b == 0 ? 0 : a / b;
                case '%':
                    return b == 0 ? 0 : a % b;
                default:
                    return 0;
            }
        }
    }

    /** The changes that may be undone, the oldest first, and behind them those that may be done again. */
    private static final class Changes {
        private static final int MOST = 40;

        private final int[] numbers;
        private final int[] whats;
        private final int[] before;
        private final int[] after;
        private int done;
        private int held;

        Changes() {
            numbers = new int[MOST];
            whats = new int[MOST];
            before = new int[MOST];
            after = new int[MOST];
            done = 0;
            held = 0;
        }

        void add(int number, int what, int was, int becomes) {
            if (done >= MOST) {
                dropOldest(numbers);
                dropOldest(whats);
                dropOldest(before);
                dropOldest(after);
                done = MOST - 1;
            }
            numbers[done] = number;
            whats[done] = what;
            before[done] = was;
            after[done] = becomes;
            done++;
            held = done;
        }

        private static void dropOldest(int[] from) {
            System.arraycopy(from, 1, from, 0, MOST - 1);
        }

        int mayGoBack() {
            return done;
        }

        int mayGoOn() {
            return held - done;
        }

        int goBack(Folk folk) {
            if (done > 0) {
                done--;
                folk.tell(numbers[done], whats[done], before[done]);
            }
            return done;
        }

        int goOn(Folk folk) {
            if (done < held) {
                folk.tell(numbers[done], whats[done], after[done]);
                done++;
            }
            return held - done;
        }
    }

    /** The bodies that are kept, and their acts. */
    private static final class Acts {
        private static final int KINDS = 8, ACTS = 4, MOST = 50, MOST_TRACED = 24, DEEPEST = 20;
        private static final int WEARS = 0, FREEZES = 1, CALLS = 2;
        private static final int[] ABOVE = {-1, 0, 0, 2, 1, 3, 0, 4};
        // by kind the bodies of wears, freezes, calls, tells; 0: it comes from above
        private static final int[] BODIES = {
            1, 10, 11, 2,
            20, 0, 0, 0,
            0, 30, 0, 0,
            0, 41, 40, 0,
            0, 0, 50, 0,
            0, 0, 0, 60,
            70, 0, 0, 0,
            0, 80, 0, 81};

        private final int[] kinds;
        private final int[] traces;
        private int size;
        private int ran;
        private int self;

        Acts() {
            kinds = new int[MOST];
            traces = new int[MOST_TRACED];
            size = 0;
            ran = 0;
        }

        static boolean isKind(int kind) {
            return kind >= 0 && kind < KINDS;
        }

        boolean isFull() {
            return size >= MOST;
        }

        boolean has(int number) {
            return number >= 0 && number < size;
        }

        int size() {
            return size;
        }

        int ran() {
            return ran;
        }

        int add(int kind) {
            if (size < MOST) {
                kinds[size] = kind;
                size++;
            }
            return size - 1;
        }

        int kindOf(int number) {
            return has(number) ? kinds[number] : 0;
        }

        boolean isUnder(int number, int kind) {
            int at = kindOf(number);
            for (int k = 0; k < KINDS && isKind(at); k++) {
                if (at == kind) {
                    return true;
                }
                at = ABOVE[at];
            }
            return false;
        }

        boolean hasTrace(int i) {
            return i >= 0 && i < Math.min(ran, MOST_TRACED);
        }

        int traced(int i) {
            return hasTrace(i) ? traces[i] : 0;
        }

        int start(int number, int which, int x) {
            ran = 0;
            if (!has(number) || which < 0 || which >= ACTS) {
                return 0;
            }
            self = number;
            return own(which, x, 0);
        }

        private int own(int which, int x, int depth) {
            return from(kindOf(self), which, x, depth);
        }

        /** The act by the body of this kind, or of the next above that has one. */
        private int from(int kind, int which, int x, int depth) {
            int at = kind;
            for (int k = 0; k < KINDS && isKind(at) && BODIES[at * ACTS + which] == 0; k++) {
                at = ABOVE[at];
            }
            if (!isKind(at) || depth > DEEPEST) {
                return 0;
            }
            int number = BODIES[at * ACTS + which];
            note(number);
            return at == 0 ? runOfName(number, x, depth + 1) : runUnder(number, ABOVE[at], which, x, depth + 1);
        }

        private void note(int number) {
            if (ran < MOST_TRACED) {
                traces[ran] = number;
            }
            ran++;
        }

        private int runOfName(int number, int x, int depth) {
            switch (number) {
                case 1:
                    return x + self;
                case 2:
                    return own(FREEZES, x, depth) - own(CALLS, 1, depth);
                case 10:
                    return own(WEARS, x, depth) * 2;
                case 11:
                    return x ^ self;
                default:
                    return 0;
            }
        }

        /** Every body under NAME asks the kind above it first. */
        private int runUnder(int number, int above, int which, int x, int depth) {
            int got = from(above, which, number == 41 ? x + 1 : x, depth);
            switch (number) {
                case 20:
                    return got + 3;
                case 30:
                    return -got;
                case 40:
                    return got * 3;
                case 50:
                    return got - own(WEARS, 2, depth);
                case 60:
                    return got ^ 5;
                case 70:
                    return got * 2;
                case 80:
                    return got + own(CALLS, 2, depth);
                case 81:
                    return got - 1;
                default:
                    return got;
            }
        }
    }

    /** A shelf: it holds nothing, a name, or a row of one sort. */
    private static final class Shelf {
        static final int MOST = 60;
        private static final int NOTHING = -1, NAME = -2;
        // between INTS and BOOLEANS stand longs, which keep all that is put in
        private static final int BYTES = 0, SHORTS = 1, INTS = 2, BOOLEANS = 4;

        // NOTHING, NAME, or the sort of the row
        private int holds;
        private int name;
        private int size;
        private final long[] cells;

        Shelf() {
            cells = new long[MOST];
            holds = NOTHING;
        }

        static boolean isSort(int sort) {
            return sort >= BYTES && sort <= BOOLEANS;
        }

        boolean isEmpty() {
            return holds == NOTHING;
        }

        boolean isName() {
            return holds == NAME;
        }

        boolean isRow() {
            return holds >= BYTES;
        }

        boolean isOfBytes() {
            return holds == BYTES;
        }

        boolean isLike(Shelf other) {
            return holds == other.holds;
        }

        int name() {
            return name;
        }

        int size() {
            return size;
        }

        void holdNothing() {
            holds = NOTHING;
            size = 0;
        }

        void holdName(int number) {
            holds = NAME;
            name = number;
            size = 0;
        }

        void holdRow(int sort, int n) {
            holds = sort;
            size = Math.max(0, Math.min(n, MOST));
            for (int i = 0; i < size; i++) {
                cells[i] = 0;
            }
        }

        /** Written so that no sum can wrap. */
        boolean hasPlaces(int i, int n) {
            return i >= 0 && n >= 0 && n <= size && i <= size - n;
        }

        long get(int i) {
            return hasPlaces(i, 1) ? cells[i] : 0;
        }

        int number(int i) {
            return hasPlaces(i, 1) ? (int) cells[i] : 0;
        }

        void set(int i, long v) {
            if (hasPlaces(i, 1)) {
                cells[i] = cut(v);
            }
        }

        private long cut(long v) {
            switch (holds) {
                case BYTES:
                    return (byte) v;
                case SHORTS:
                    return (short) v;
                case INTS:
                    return (int) v;
                case BOOLEANS:
                    return v != 0 ? 1 : 0;
                default:
                    return v;
            }
        }

        void setAll(int j, Shelf from, int i, int n) {
            if (from.hasPlaces(i, n) && hasPlaces(j, n)) {
                System.arraycopy(from.cells, i, cells, j, n);
            }
        }
    }
}
