import java.util.Arrays;
import java.util.NoSuchElementException;

/** An estate told as a text, laws told as texts, and drives over it; ../shared/DOC.md says what each call does. */
public final class BeatenAfternoon {
    public static final int NONE = -1;
    public static final int HIDDEN = -1000000;

    private static final int NO_SORT = -2;
    private static final int ESTATE_SORT = 0;
    private static final int LAW_SORT = 1;

    private static final int COLUMNS = 10;
    private static final int MINUTES = 10;
    private static final int WINDS = 9;
    private static final int CALM = 4;
    private static final int THINGS_MOST = 7;
    private static final int GUNS_MOST = 5;
    private static final int LAWS_MOST = 4;

    private static final int SKILL_MOST = 9;
    private static final int BAG_MOST = 9999;
    private static final int COINS_MOST = 999;
    private static final int DAY_MOST = 999;
    private static final int DRIVES_MOST = 60;
    private static final int LOTS_BELOW = 10;
    private static final int SHARED_MOST = 999;
    private static final int AHEAD_MOST = 9999;

    private static final int DRIVE_EARNS = 3;
    private static final int PRACTICE_COSTS = 3;
    private static final int PUTTING_OUT_COSTS = 2;

    private static final int NO_SUCH_ONE = 0;
    private static final int OUT_OF_BOUNDS = 1;
    private static final int IS_SO = 2;
    private static final int TOO_FEW_COINS = 3;
    private static final int BEYOND_LAST_DAY = 4;
    private static final int REASONS = 5;

    private final Tape tape = new Tape();
    private final EstateReader estateReader = new EstateReader();
    private final LawReader lawReader = new LawReader();
    private final Ground ground = new Ground();
    private final Law[] laws = new Law[LAWS_MOST];
    private int lawCount = 0;
    private int lawThatHolds = NONE;
    private int lotsNow = 2;
    private long drawn = 0;
    private final int[] refused = new int[REASONS];
    private final Past past = new Past();
    private final Sightings sightings = new Sightings();
    private final Claims claims = new Claims();
    private final Duel duel = new Duel();

    public BeatenAfternoon() {
    }

    public int feed(int a, int b, int c, int d, int e) {
        return tape.add(a, b, c, d, e) ? tape.length : NONE;
    }

    public boolean end(int n) {
        if (n < 0 || n > tape.length) {
            return false;
        }
        tape.length = n;
        return true;
    }

    public int fault(int sort) {
        if (sort != ESTATE_SORT && sort != LAW_SORT) {
            return NO_SORT;
        }
        boolean right = sort == ESTATE_SORT ? estateReader.read(tape) : lawReader.read(tape);
        return right ? NONE : tape.at;
    }

    public int text(int sort) {
        if (sort == ESTATE_SORT) {
            return estateReader.read(tape) ? settle() : NONE;
        }
        if (sort != LAW_SORT || lawCount >= LAWS_MOST) {
            return NONE;
        }
        return lawReader.read(tape) ? enact() : NONE;
    }

    public int rule(int what) {
        if (!hasEstate()) {
            return NONE;
        }
        switch (what) {
            case 0: return ground.now.wind;
            case 1: return ground.now.coins;
            case 2: return ground.now.from;
            case 3: return ground.now.to;
            default: return NONE;
        }
    }

    public int thing(int thing, int what) throws NoSuchElementException {
        if (!isThing(thing) || what < 0 || what > 6) {
            throw new NoSuchElementException("no such thing, or nothing of it");
        }
        Estate estate = ground.estate;
        switch (what) {
            case 0: return estate.columns[thing];
            case 1: return estate.rows[thing];
            case 2: return estate.ways[thing];
            case 3: return estate.values[thing];
            case 4: return estate.kinds[thing];
            case 5: return ground.now.isOut(thing) ? 1 : 0;
            default: return overOrLost(thing);
        }
    }

    public int gun(int gun, int what) {
        if (!isGun(gun) || what < 0 || what > 4) {
            return NONE;
        }
        Season now = ground.now;
        switch (what) {
            case 0: return now.pegs[gun];
            case 1: return now.skills[gun];
            case 2: return now.bags[gun];
            default: break;
        }
        ground.run(now);
        return what == 3 ? ground.valueBy[gun] : ground.takenBy[gun];
    }

    public boolean law(int law) {
        if (law < NONE || law >= lawCount) {
            return false;
        }
        lawThatHolds = law;
        ground.law = law == NONE ? null : laws[law];
        return true;
    }

    public int drives(int n) {
        if (!hasEstate()) {
            return refuse(NO_SUCH_ONE);
        }
        if (n < 1 || n > DRIVES_MOST) {
            return refuse(OUT_OF_BOUNDS);
        }
        if (ground.now.day + n > DAY_MOST) {
            return refuse(BEYOND_LAST_DAY);
        }
        for (int i = 0; i < n; i++) {
            past.keep(ground.now);
            driveOnce();
        }
        return ground.now.day;
    }

    public int line(int from, int to) {
        if (!hasEstate()) {
            return refuse(NO_SUCH_ONE);
        }
        if (!isColumn(from) || !isColumn(to) || from > to) {
            return refuse(OUT_OF_BOUNDS);
        }
        Season now = ground.now;
        if (now.from == from && now.to == to) {
            return refuse(IS_SO);
        }
        past.keep(now);
        now.from = from;
        now.to = to;
        return to - from + 1;
    }

    public int move(int gun, int column) {
        if (!isGun(gun)) {
            return refuse(NO_SUCH_ONE);
        }
        if (!isColumn(column)) {
            return refuse(OUT_OF_BOUNDS);
        }
        Season now = ground.now;
        int cost = Math.abs(column - now.pegs[gun]);
        if (cost == 0) {
            return refuse(IS_SO);
        }
        if (now.coins < cost) {
            return refuse(TOO_FEW_COINS);
        }
        past.keep(now);
        now.pegs[gun] = column;
        now.coins -= cost;
        return now.coins;
    }

    public int practise(int gun) {
        if (!isGun(gun)) {
            return refuse(NO_SUCH_ONE);
        }
        Season now = ground.now;
        if (now.skills[gun] >= SKILL_MOST) {
            return refuse(IS_SO);
        }
        if (now.coins < PRACTICE_COSTS) {
            return refuse(TOO_FEW_COINS);
        }
        past.keep(now);
        now.coins -= PRACTICE_COSTS;
        now.skills[gun]++;
        return now.skills[gun];
    }

    public int wind(int v) {
        if (!hasEstate()) {
            return refuse(NO_SUCH_ONE);
        }
        if (!isWind(v)) {
            return refuse(OUT_OF_BOUNDS);
        }
        Season now = ground.now;
        int was = now.wind;
        if (was == v) {
            return refuse(IS_SO);
        }
        past.keep(now);
        now.wind = v;
        return was;
    }

    public int putOut(int thing) {
        if (!isThing(thing)) {
            return refuse(NO_SUCH_ONE);
        }
        Season now = ground.now;
        if (now.isOut(thing)) {
            return refuse(IS_SO);
        }
        if (now.coins < PUTTING_OUT_COSTS) {
            return refuse(TOO_FEW_COINS);
        }
        past.keep(now);
        now.coins -= PUTTING_OUT_COSTS;
        now.out |= 1 << thing;
        return now.coins;
    }

    public boolean lots(int v) {
        if (v < 0 || v >= LOTS_BELOW || v == lotsNow) {
            return false;
        }
        lotsNow = v;
        return true;
    }

    public int years(int n, long seed) {
        if (!hasEstate() || n < 1 || n > DRIVES_MOST || ground.now.day + n > DAY_MOST) {
            return NONE;
        }
        drawn = seed;
        for (int i = 0; i < n; i++) {
            past.keep(ground.now);
            drawAhead();
            driveOnce();
        }
        return ground.now.day;
    }

    public int status(int what) {
        return what < 0 || what >= REASONS ? NONE : refused[what];
    }

    public int undo() {
        return past.takeBack(ground.now) ? past.acts : NONE;
    }

    public int log(int i, int what) {
        if (i < 0 || i >= logLength() || what < 0 || what > 2) {
            return NONE;
        }
        return past.readLog(ground.now.day - 1 - i, what);
    }

    public int taker(int thing) {
        if (!isThing(thing)) {
            return NONE;
        }
        ground.run(ground.now);
        return ground.takers[thing];
    }

    public int bestLine(int n, int what) {
        if (!hasEstate() || n < 1 || n > COLUMNS || !isPair(what)) {
            return NONE;
        }
        Season trial = ground.freshTrial();
        int best = NONE;
        int most = NONE;
        for (int from = 0; from + n <= COLUMNS; from++) {
            trial.from = from;
            trial.to = from + n - 1;
            ground.run(trial);
            if (ground.value > most) {
                most = ground.value;
                best = 10 * trial.from + trial.to;
            }
        }
        return what == 0 ? best : most;
    }

    public int bestPeg(int gun, int what) {
        if (!isGun(gun) || !isPair(what)) {
            return NONE;
        }
        Season trial = ground.freshTrial();
        int best = NONE;
        int most = NONE;
        for (int column = 0; column < COLUMNS; column++) {
            trial.pegs[gun] = column;
            ground.run(trial);
            if (ground.valueBy[gun] > most) {
                most = ground.valueBy[gun];
                best = column;
            }
        }
        return what == 0 ? best : most;
    }

    public int dealt(int what) {
        if (!hasEstate() || !isPair(what)) {
            return NONE;
        }
        int deals = 1;
        for (int guns = 2; guns <= ground.estate.guns; guns++) {
            deals *= guns;
        }
        ground.sortPegs();
        int best = NONE;
        int least = NONE;
        for (int deal = 0; deal < deals; deal++) {
            int row = ground.dealPegs(deal, deals);
            ground.run(ground.trial);
            int more = ground.spread();
            if (best == NONE || more < least) {
                least = more;
                best = row;
            }
        }
        return what == 0 ? best : least;
    }

    public int seen(int thing, int wind, int column, boolean is) {
        if (!isThing(thing) || !isWind(wind) || !isColumn(column)) {
            return NONE;
        }
        return sightings.add(thing, wind, column, is) ? sightings.many : NONE;
    }

    public int lay(int thing, int i) {
        if (!isThing(thing) || i < NONE) {
            return NONE;
        }
        int found = 0;
        for (int column = 0; column < COLUMNS; column++) {
            if (sightings.fit(ground.estate, thing, column)) {
                if (found == i) {
                    return column;
                }
                found++;
            }
        }
        return i == NONE ? found : NONE;
    }

    public int ask(int thing, int column) {
        if (!isThing(thing) || !isColumn(column)) {
            return NONE;
        }
        int best = NONE;
        int least = NONE;
        for (int wind = 0; wind < WINDS; wind++) {
            int apart = sightings.apart(ground.estate, thing, column, wind);
            if (apart != NONE && (best == NONE || apart < least)) {
                least = apart;
                best = wind;
            }
        }
        return best;
    }

    public int claim(int what) {
        if (!hasEstate() || !isPair(what)) {
            return NONE;
        }
        claims.gather(ground);
        claims.weigh(ground.estate.guns);
        return what == 0 ? claims.row(ground.estate.guns) : claims.total();
    }

    public int game(int one, int other, int x, int y, int what) {
        if (!areTwoGuns(one, other) || !Duel.isStep(x) || !Duel.isStep(y) || !isPair(what)) {
            return HIDDEN;
        }
        ground.stepAside(one, other, x, y);
        ground.run(ground.trial);
        return what == 0 ? ground.valueBy[one] - x : ground.valueBy[other] - y;
    }

    public int rests(int one, int other, int i) {
        if (!areTwoGuns(one, other) || i < NONE) {
            return NONE;
        }
        duel.play(ground, one, other);
        int found = 0;
        for (int x = 0; x < Duel.STEPS; x++) {
            for (int y = 0; y < Duel.STEPS; y++) {
                if (duel.isRest(x, y)) {
                    if (found == i) {
                        return 10 * x + y;
                    }
                    found++;
                }
            }
        }
        return i == NONE ? found : NONE;
    }

    public int odds(int gun, int chance) {
        if (!isGun(gun) || chance < 0 || chance > 100) {
            return NONE;
        }
        return ground.oddsOfTaking(gun, chance);
    }

    public int shares(int gun, int c) {
        if (!isGun(gun) || c < 0 || c > SHARED_MOST) {
            return NONE;
        }
        int all = ground.now.bagsOfAll();
        return all <= 0 ? 0 : c * ground.now.bags[gun] / all;
    }

    public int rising(int minute) {
        if (!hasEstate() || minute < 0 || minute >= MINUTES) {
            return NONE;
        }
        int bits = 0;
        for (int thing = 0; thing < ground.estate.things; thing++) {
            if (ground.rises(ground.now, thing, minute)) {
                bits |= 1 << thing;
            }
        }
        return bits;
    }

    public int most(int what) {
        if (!hasEstate()) {
            return NONE;
        }
        switch (what) {
            case 0: return lastToRise();
            case 1: return finest();
            case 2: return busiest();
            case 3: return firstGreatest(ground.now.bags);
            case 4: return firstGreatest(ground.now.skills);
            case 5: return widestGap();
            case 6: return valueOut();
            case 7:
                ground.run(ground.now);
                return ground.value;
            case 8:
                ground.run(ground.now);
                return Integer.bitCount(ground.letBy);
            default: return NONE;
        }
    }

    public int ahead(int n) {
        if (!hasEstate() || n < 1 || n > AHEAD_MOST) {
            return NONE;
        }
        ground.run(ground.now);
        int all = ground.now.bagsOfAll();
        for (int days = 0; days <= DAY_MOST; days++) {
            if (all + days * ground.value >= n) {
                return days;
            }
        }
        return NONE;
    }

    public int image() {
        if (!hasEstate()) {
            return NONE;
        }
        past.keepImage(ground.now);
        return ground.now.day;
    }

    public int back() {
        return past.bringImageBack(ground.now) ? ground.now.day : NONE;
    }

    public int count(int what) {
        switch (what) {
            case 0: return ground.estate.things;
            case 1: return ground.estate.guns;
            case 2: return lawCount;
            case 3: return tape.length;
            case 4: return lawThatHolds;
            case 5: return ground.now.day;
            case 6: return ground.now.bagsOfAll();
            case 7: return ground.now.out;
            case 8: return lotsNow;
            case 9: return sightings.many;
            case 10: return logLength();
            case 11: return past.acts;
            default: return HIDDEN;
        }
    }

    private boolean hasEstate() {
        return ground.estate.things > 0;
    }

    private boolean isThing(int thing) {
        return thing >= 0 && thing < ground.estate.things;
    }

    private boolean isGun(int gun) {
        return gun >= 0 && gun < ground.estate.guns;
    }

    private boolean areTwoGuns(int one, int other) {
        return isGun(one) && isGun(other) && one != other;
    }

    private static boolean isColumn(int column) {
        return column >= 0 && column < COLUMNS;
    }

    private static boolean isWind(int wind) {
        return wind >= 0 && wind < WINDS;
    }

    private static boolean isPair(int what) {
        return what == 0 || what == 1;
    }

    private int refuse(int why) {
        refused[why]++;
        return NONE;
    }

    private int settle() {
        ground.estate.copyFrom(estateReader.estate);
        ground.now.copyFrom(estateReader.start);
        past.forget();
        sightings.many = 0;
        tape.length = 0;
        return ground.estate.things;
    }

    private int enact() {
        laws[lawCount] = lawReader.made();
        tape.length = 0;
        lawCount++;
        return lawCount - 1;
    }

    private int overOrLost(int thing) {
        int column = ground.estate.over(thing, ground.now.wind);
        return isColumn(column) ? column : COLUMNS;
    }

    // Every DRIVE makes the DAY one later, so the DAY also tells how many the LOG has had.
    private int logLength() {
        return Math.min(Past.LOG_MOST, ground.now.day);
    }

    private void driveOnce() {
        Season now = ground.now;
        ground.run(now);
        past.writeLog(now.day, ground.taken, ground.letBy, ground.value);
        for (int gun = 0; gun < ground.estate.guns; gun++) {
            now.bags[gun] = Math.min(BAG_MOST, now.bags[gun] + ground.valueBy[gun]);
        }
        now.out &= ~ground.taken;
        now.coins = Math.min(COINS_MOST, now.coins + DRIVE_EARNS);
        now.day++;
    }

    private void drawAhead() {
        Season now = ground.now;
        now.wind = draw(WINDS);
        now.out |= 1 << draw(ground.estate.things);
        if (draw(10) < lotsNow) {
            int gun = draw(ground.estate.guns);
            now.pegs[gun] = draw(COLUMNS);
        }
    }

    private int draw(int below) {
        drawn = drawn * 6364136223846793005L + 1442695040888963407L;
        return below < 1 ? 0 : (int) ((drawn >>> 33) % below);
    }

    private int lastToRise() {
        ground.rise(ground.now);
        return ground.risen < 1 ? NONE : ground.order[ground.risen - 1];
    }

    private int finest() {
        int best = NONE;
        for (int thing = 0; thing < ground.estate.things; thing++) {
            boolean better = best == NONE || ground.estate.values[thing] > ground.estate.values[best];
            if (ground.now.isOut(thing) && better) {
                best = thing;
            }
        }
        return best;
    }

    private int busiest() {
        ground.rise(ground.now);
        int best = NONE;
        int most = 0;
        for (int column = 0; column < COLUMNS; column++) {
            int many = ground.comingOver(column);
            if (many > most) {
                most = many;
                best = column;
            }
        }
        return best;
    }

    private int firstGreatest(int[] ofGuns) {
        int best = 0;
        for (int gun = 1; gun < ground.estate.guns; gun++) {
            if (ofGuns[gun] > ofGuns[best]) {
                best = gun;
            }
        }
        return best;
    }

    private int widestGap() {
        ground.sortPegs();
        int widest = 0;
        for (int i = 1; i < ground.estate.guns; i++) {
            widest = Math.max(widest, ground.sorted[i] - ground.sorted[i - 1]);
        }
        return widest;
    }

    private int valueOut() {
        int sum = 0;
        for (int thing = 0; thing < ground.estate.things; thing++) {
            if (ground.now.isOut(thing)) {
                sum += ground.estate.values[thing];
            }
        }
        return sum;
    }

    /** The bytes that came, and how far a reader has gone in them: where it stops short is the FAULT. */
    private static final class Tape {
        static final int MOST = 240;
        static final int END = -1;
        private static final int FED_AT_ONCE = 20;

        private final char[] signs = new char[MOST + FED_AT_ONCE];
        int length = 0;
        int at = 0;

        // What lies behind the length does not count, so a refused feed may leave its bytes there.
        boolean add(int a, int b, int c, int d, int e) {
            int behind = put(a, length);
            behind = put(b, behind);
            behind = put(c, behind);
            behind = put(d, behind);
            behind = put(e, behind);
            if (behind > MOST) {
                return false;
            }
            length = behind;
            return true;
        }

        private int put(int four, int from) {
            int behind = from;
            for (int shift = 24; shift >= 0; shift -= 8) {
                int sign = (four >>> shift) & 255;
                if (sign != 0 && behind < signs.length) {
                    signs[behind] = (char) sign;
                    behind++;
                }
            }
            return behind;
        }

        int look() {
            while (at < length && signs[at] == ' ') {
                at++;
            }
            return at < length ? signs[at] : END;
        }

        boolean pass(int sign) {
            if (look() != sign) {
                return false;
            }
            at++;
            return true;
        }

        boolean isAtDigit() {
            return at < length && signs[at] >= '0' && signs[at] <= '9';
        }

        int readNumber(int digitsMost, int most) {
            look();
            if (!isAtDigit()) {
                return NONE;
            }
            int number = 0;
            for (int digits = 0; digits < digitsMost && isAtDigit(); digits++) {
                number = 10 * number + signs[at] - '0';
                at++;
            }
            if (isAtDigit()) {
                return NONE;
            }
            if (number > most) {
                at--;
                return NONE;
            }
            return number;
        }
    }

    /** What the text tells of THINGS, and how many GUNS there are; no ACT changes it. */
    private static final class Estate {
        int things = 0;
        int guns = 0;
        final int[] columns = new int[THINGS_MOST];
        final int[] rows = new int[THINGS_MOST];
        final int[] ways = new int[THINGS_MOST];
        final int[] values = new int[THINGS_MOST];
        final int[] kinds = new int[THINGS_MOST];

        void copyFrom(Estate other) {
            things = other.things;
            guns = other.guns;
            System.arraycopy(other.columns, 0, columns, 0, THINGS_MOST);
            System.arraycopy(other.rows, 0, rows, 0, THINGS_MOST);
            System.arraycopy(other.ways, 0, ways, 0, THINGS_MOST);
            System.arraycopy(other.values, 0, values, 0, THINGS_MOST);
            System.arraycopy(other.kinds, 0, kinds, 0, THINGS_MOST);
        }

        int over(int thing, int wind) {
            return overFrom(thing, columns[thing], wind);
        }

        // Not held within the columns: ODDS asks where one column further to the right is.
        int overFrom(int thing, int column, int wind) {
            int above = MINUTES - 1 - rows[thing];
            return column + (ways[thing] - CALM) * above / 4 + (wind - CALM) * above / 6;
        }
    }

    /** All that ACTS change, but for the LOG. */
    private static final class Season {
        static final int SIZE = 6 + 3 * GUNS_MOST;

        int wind = CALM;
        int coins = 0;
        int from = 0;
        int to = COLUMNS - 1;
        int out = 0;
        int day = 0;
        final int[] pegs = new int[GUNS_MOST];
        final int[] skills = new int[GUNS_MOST];
        final int[] bags = new int[GUNS_MOST];

        boolean isOut(int thing) {
            return (out >> thing & 1) == 1;
        }

        int bagsOfAll() {
            int sum = 0;
            for (int gun = 0; gun < GUNS_MOST; gun++) {
                sum += bags[gun];
            }
            return sum;
        }

        void copyFrom(Season other) {
            wind = other.wind;
            coins = other.coins;
            from = other.from;
            to = other.to;
            out = other.out;
            day = other.day;
            System.arraycopy(other.pegs, 0, pegs, 0, GUNS_MOST);
            System.arraycopy(other.skills, 0, skills, 0, GUNS_MOST);
            System.arraycopy(other.bags, 0, bags, 0, GUNS_MOST);
        }

        void save(int[] rows, int at) {
            if (at < 0 || at + SIZE > rows.length) {
                return;
            }
            rows[at] = wind;
            rows[at + 1] = coins;
            rows[at + 2] = from;
            rows[at + 3] = to;
            rows[at + 4] = out;
            rows[at + 5] = day;
            System.arraycopy(pegs, 0, rows, at + 6, GUNS_MOST);
            System.arraycopy(skills, 0, rows, at + 6 + GUNS_MOST, GUNS_MOST);
            System.arraycopy(bags, 0, rows, at + 6 + 2 * GUNS_MOST, GUNS_MOST);
        }

        void load(int[] rows, int at) {
            if (at < 0 || at + SIZE > rows.length) {
                return;
            }
            wind = rows[at];
            coins = rows[at + 1];
            from = rows[at + 2];
            to = rows[at + 3];
            out = rows[at + 4];
            day = rows[at + 5];
            System.arraycopy(rows, at + 6, pegs, 0, GUNS_MOST);
            System.arraycopy(rows, at + 6 + GUNS_MOST, skills, 0, GUNS_MOST);
            System.arraycopy(rows, at + 6 + 2 * GUNS_MOST, bags, 0, GUNS_MOST);
        }
    }

    /** Reads an ESTATE into a draft of its own, so that a text with a FAULT leaves the ESTATE that is there alone. */
    private static final class EstateReader {
        private static final int DIGITS = 2;
        private static final String RULE_LETTERS = "wclr";
        private static final int[] RULE_MOST = {8, 99, 9, 9};
        private static final int[] RULE_WITHOUT = {4, 20, 0, 9};
        private static final String THING_LETTERS = "xyfvk";
        private static final int[] THING_MOST = {9, 9, 8, 9, 3};
        private static final int[] THING_WITHOUT = {0, 0, 4, 3, 0};
        private static final String GUN_LETTERS = "xs";
        private static final int[] GUN_MOST = {9, 9};
        private static final int[] GUN_WITHOUT = {0, 5};

        final Estate estate = new Estate();
        final Season start = new Season();
        private final int[] items = new int[5];
        private boolean ruled = false;

        boolean read(Tape tape) {
            tape.at = 0;
            estate.things = 0;
            estate.guns = 0;
            start.out = 0;
            ruled = false;
            setRules(RULE_WITHOUT);
            for (int clauses = 0; clauses < Tape.MOST; clauses++) {
                if (!readClause(tape)) {
                    return false;
                }
                if (tape.look() == Tape.END) {
                    return estate.things > 0 && estate.guns > 0 && start.from <= start.to;
                }
                if (!tape.pass(';')) {
                    return false;
                }
            }
            return false;
        }

        private boolean readClause(Tape tape) {
            switch (tape.look()) {
                case 's': return readRules(tape);
                case 't': return readThing(tape);
                case 'g': return readGun(tape);
                default: return false;
            }
        }

        private boolean readRules(Tape tape) {
            if (ruled) {
                return false;
            }
            ruled = true;
            if (!readItems(tape, RULE_LETTERS, RULE_MOST, RULE_WITHOUT)) {
                return false;
            }
            setRules(items);
            return true;
        }

        private void setRules(int[] rules) {
            start.wind = rules[0];
            start.coins = rules[1];
            start.from = rules[2];
            start.to = rules[3];
        }

        private boolean readThing(Tape tape) {
            int thing = estate.things;
            if (thing >= THINGS_MOST || !readItems(tape, THING_LETTERS, THING_MOST, THING_WITHOUT)) {
                return false;
            }
            estate.columns[thing] = items[0];
            estate.rows[thing] = items[1];
            estate.ways[thing] = items[2];
            estate.values[thing] = items[3];
            estate.kinds[thing] = items[4];
            start.out |= 1 << thing;
            estate.things++;
            return true;
        }

        private boolean readGun(Tape tape) {
            int gun = estate.guns;
            if (gun >= GUNS_MOST || !readItems(tape, GUN_LETTERS, GUN_MOST, GUN_WITHOUT)) {
                return false;
            }
            start.pegs[gun] = items[0];
            start.skills[gun] = items[1];
            estate.guns++;
            return true;
        }

        // The CLAUSE's own letter is passed only here, so that one too many is itself the FAULT.
        private boolean readItems(Tape tape, String letters, int[] most, int[] without) {
            tape.at++;
            System.arraycopy(without, 0, items, 0, without.length);
            int given = 0;
            for (int i = 0; i <= letters.length(); i++) {
                int sign = tape.look();
                if (sign == Tape.END || sign == ';') {
                    return true;
                }
                int which = letters.indexOf((char) sign);
                if (which < 0 || (given >> which & 1) == 1) {
                    return false;
                }
                given |= 1 << which;
                tape.at++;
                int number = tape.readNumber(DIGITS, most[which]);
                if (number == NONE) {
                    return false;
                }
                items[which] = number;
            }
            return false;
        }
    }

    /**
     * Reads a LAW into code for a stack: a number that is not negative stands for itself, -1 .. -6 for the letters,
     * any other sign by its negative, behind what it works on. No sign of a text makes more than one number of code,
     * but for ? which makes two where y has made none, so the code is never longer than the text.
     */
    private static final class LawReader {
        private static final int DIGITS = 4;
        private static final int NUMBER_MOST = 9999;
        private static final int NESTED_MOST = 6;

        private final int[] code = new int[Tape.MOST];
        private int size = 0;

        boolean read(Tape tape) {
            tape.at = 0;
            size = 0;
            for (int clauses = 0; clauses < Tape.MOST; clauses++) {
                if (!tape.pass('y') || !tape.pass(':') || !readClause(tape)) {
                    return false;
                }
                if (tape.look() == Tape.END) {
                    return true;
                }
                if (!tape.pass(';')) {
                    return false;
                }
            }
            return false;
        }

        Law made() {
            return new Law(Arrays.copyOf(code, size));
        }

        // Whether a SUM opens a CONDITION shows only behind it: then it is read once more as such.
        private boolean readClause(Tape tape) {
            int sign = tape.look();
            if (sign != '!' && sign != '(') {
                int atThen = tape.at;
                int sizeThen = size;
                if (!readSum(tape, 0)) {
                    return false;
                }
                if (!isComparison(tape.look())) {
                    write(-';');
                    return true;
                }
                tape.at = atThen;
                size = sizeThen;
            }
            return readCondition(tape, 0) && tape.pass('?') && readWorth(tape);
        }

        private boolean readWorth(Tape tape) {
            write(-'?');
            int gap = size;
            write(0);
            if (!readSum(tape, 0)) {
                return false;
            }
            write(-';');
            if (gap < code.length) {
                code[gap] = size;
            }
            return true;
        }

        private boolean readCondition(Tape tape, int nested) {
            if (!readTruth(tape, nested)) {
                return false;
            }
            for (int i = 0; i < Tape.MOST && tape.pass('|'); i++) {
                if (!readTruth(tape, nested)) {
                    return false;
                }
                write(-'|');
            }
            return true;
        }

        private boolean readTruth(Tape tape, int nested) {
            if (!readUnit(tape, nested)) {
                return false;
            }
            for (int i = 0; i < Tape.MOST && tape.pass('&'); i++) {
                if (!readUnit(tape, nested)) {
                    return false;
                }
                write(-'&');
            }
            return true;
        }

        private boolean readUnit(Tape tape, int nested) {
            int sign = tape.look();
            if (sign != '!' && sign != '(') {
                return readComparison(tape, nested);
            }
            if (nested >= NESTED_MOST) {
                return false;
            }
            tape.at++;
            if (sign == '(') {
                return readCondition(tape, nested + 1) && tape.pass(')');
            }
            if (!readUnit(tape, nested + 1)) {
                return false;
            }
            write(-'!');
            return true;
        }

        private boolean readComparison(Tape tape, int nested) {
            if (!readSum(tape, nested)) {
                return false;
            }
            int sign = tape.look();
            if (!isComparison(sign)) {
                return false;
            }
            tape.at++;
            if (!readSum(tape, nested)) {
                return false;
            }
            write(-sign);
            return true;
        }

        private boolean readSum(Tape tape, int nested) {
            if (!readTerm(tape, nested)) {
                return false;
            }
            for (int i = 0; i < Tape.MOST; i++) {
                int sign = tape.look();
                if (sign != '+' && sign != '-') {
                    return true;
                }
                tape.at++;
                if (!readTerm(tape, nested)) {
                    return false;
                }
                write(-sign);
            }
            return true;
        }

        private boolean readTerm(Tape tape, int nested) {
            if (!readAtom(tape, nested)) {
                return false;
            }
            for (int i = 0; i < Tape.MOST; i++) {
                int sign = tape.look();
                if (sign != '*' && sign != '/') {
                    return true;
                }
                tape.at++;
                if (!readAtom(tape, nested)) {
                    return false;
                }
                write(-sign);
            }
            return true;
        }

        private boolean readAtom(Tape tape, int nested) {
            int sign = tape.look();
            if (sign == '[') {
                if (nested >= NESTED_MOST) {
                    return false;
                }
                tape.at++;
                return readSum(tape, nested + 1) && tape.pass(']');
            }
            int letter = sign == Tape.END ? NONE : Law.LETTERS.indexOf((char) sign);
            if (letter >= 0) {
                tape.at++;
                write(-1 - letter);
                return true;
            }
            int number = tape.readNumber(DIGITS, NUMBER_MOST);
            if (number == NONE) {
                return false;
            }
            write(number);
            return true;
        }

        private static boolean isComparison(int sign) {
            return sign == '=' || sign == '<' || sign == '>';
        }

        private void write(int number) {
            if (size < code.length) {
                code[size] = number;
                size++;
            }
        }
    }

    /** A LAW as LawReader writes it. */
    private static final class Law {
        static final String LETTERS = "vkdsmn";
        private static final int WITHIN = 1000000;
        // Six within one another need 18 at most: three for a SUM, three for its CONDITION, two for each bracket.
        private static final int STACK = 32;

        private final int[] code;
        private final int[] stack = new int[STACK];

        Law(int[] code) {
            this.code = code;
        }

        int worth(int[] letters) {
            int top = 0;
            int next = 0;
            for (int at = 0; at < code.length; at++) {
                int number = code[at];
                if (at < next) {
                    continue;
                }
                if (number >= -letters.length) {
                    if (top >= STACK) {
                        return 0;
                    }
                    stack[top] = number >= 0 ? number : letters[-1 - number];
                    top++;
                } else if (top < 1 || number == -';') {
                    return top < 1 ? 0 : stack[top - 1];
                } else if (number == -'!') {
                    stack[top - 1] = 1 - stack[top - 1];
                } else if (number == -'?') {
                    top--;
                    next = stack[top] == 1 || at + 1 >= code.length ? at + 2 : code[at + 1];
                } else if (top > 1) {
                    top--;
                    stack[top - 1] = joined(-number, stack[top - 1], stack[top]);
                }
            }
            return 0;
        }

        private static int joined(int sign, long a, long b) {
            long result;
            switch (sign) {
                case '+': result = a + b; break;
                case '-': result = a - b; break;
                case '*': result = a * b; break;
                case '/': result = b == 0 ? 0 : a / b; break;
                case '=': result = a == b ? 1 : 0; break;
                case '<': result = a < b ? 1 : 0; break;
                case '>': result = a > b ? 1 : 0; break;
                case '&': result = a & b; break;
                case '|': result = a | b; break;
                default: result = 0; break;
            }
            return result > WITHIN ? WITHIN : result < -WITHIN ? -WITHIN : (int) result;
        }
    }

    /** The ESTATE as it is now, one to try things out on, and what the latest DRIVE run over either of them gave. */
    private static final class Ground {
        private static final int REACH_MOST = 20;
        private static final int ALL_PARTS = 1000000000;

        final Estate estate = new Estate();
        final Season now = new Season();
        final Season trial = new Season();
        Law law = null;

        int risen = 0;
        final int[] order = new int[THINGS_MOST];
        final int[] takers = new int[THINGS_MOST];
        final int[] valueBy = new int[GUNS_MOST];
        final int[] takenBy = new int[GUNS_MOST];
        int taken = 0;
        int letBy = 0;
        int value = 0;
        final int[] sorted = new int[GUNS_MOST];
        private final int[] letters = new int[6];

        Season freshTrial() {
            trial.copyFrom(now);
            return trial;
        }

        boolean rises(Season season, int thing, int minute) {
            int column = estate.columns[thing];
            return season.isOut(thing) && estate.rows[thing] == minute && column >= season.from && column <= season.to;
        }

        void rise(Season season) {
            risen = 0;
            for (int minute = 0; minute < MINUTES; minute++) {
                for (int thing = 0; thing < estate.things; thing++) {
                    if (rises(season, thing, minute) && risen < THINGS_MOST) {
                        order[risen] = thing;
                        risen++;
                    }
                }
            }
        }

        void run(Season season) {
            rise(season);
            taken = 0;
            letBy = 0;
            value = 0;
            Arrays.fill(takers, NONE);
            Arrays.fill(valueBy, 0);
            Arrays.fill(takenBy, 0);
            for (int i = 0; i < risen; i++) {
                int thing = order[i];
                int gun = firstInReach(season, thing, estate.over(thing, season.wind));
                if (gun == NONE) {
                    letBy |= 1 << thing;
                } else {
                    take(thing, gun);
                }
            }
        }

        private void take(int thing, int gun) {
            takers[thing] = gun;
            taken |= 1 << thing;
            takenBy[gun]++;
            valueBy[gun] += estate.values[thing];
            value += estate.values[thing];
        }

        private int firstInReach(Season season, int thing, int column) {
            int best = NONE;
            int most = 0;
            if (!isColumn(column)) {
                return NONE;
            }
            for (int gun = 0; gun < estate.guns; gun++) {
                int reach = reach(season, thing, gun, column);
                if (reach > most) {
                    most = reach;
                    best = gun;
                }
            }
            return best;
        }

        int reach(Season season, int thing, int gun, int column) {
            int far = Math.abs(season.pegs[gun] - column);
            if (law == null) {
                return Math.max(0, season.skills[gun] - 2 * far);
            }
            letters[0] = estate.values[thing];
            letters[1] = estate.kinds[thing];
            letters[2] = far;
            letters[3] = season.skills[gun];
            letters[4] = estate.rows[thing];
            letters[5] = takenBy[gun];
            return Math.max(0, Math.min(REACH_MOST, law.worth(letters)));
        }

        int comingOver(int column) {
            int many = 0;
            for (int i = 0; i < risen; i++) {
                if (estate.over(order[i], now.wind) == column) {
                    many++;
                }
            }
            return many;
        }

        void sortPegs() {
            for (int gun = 0; gun < estate.guns; gun++) {
                int peg = now.pegs[gun];
                int place = gun;
                while (place > 0 && sorted[place - 1] > peg) {
                    sorted[place] = sorted[place - 1];
                    place--;
                }
                sorted[place] = peg;
            }
        }

        // Deals are numbered as their rows rise, so that the first of several has the least row.
        int dealPegs(int deal, int deals) {
            freshTrial();
            int row = 0;
            int rest = deal;
            int block = deals;
            int dealtTo = 0;
            for (int place = 0; place < estate.guns; place++) {
                block = Math.max(1, block / (estate.guns - place));
                int gun = gunLeft(dealtTo, rest / block);
                rest %= block;
                dealtTo |= 1 << gun;
                trial.pegs[gun] = sorted[place];
                row = 10 * row + gun;
            }
            return row;
        }

        private int gunLeft(int dealtTo, int skipped) {
            int left = skipped;
            for (int gun = 0; gun < estate.guns; gun++) {
                if ((dealtTo >> gun & 1) == 0) {
                    if (left == 0) {
                        return gun;
                    }
                    left--;
                }
            }
            return 0;
        }

        int spread() {
            int most = valueBy[0];
            int fewest = valueBy[0];
            for (int gun = 1; gun < estate.guns; gun++) {
                most = Math.max(most, valueBy[gun]);
                fewest = Math.min(fewest, valueBy[gun]);
            }
            return most - fewest;
        }

        void stepAside(int one, int other, int x, int y) {
            freshTrial();
            trial.pegs[one] = Math.min(COLUMNS - 1, now.pegs[one] + x);
            trial.pegs[other] = Math.min(COLUMNS - 1, now.pegs[other] + y);
        }

        int oddsOfTaking(int gun, int chance) {
            rise(now);
            Arrays.fill(takenBy, 0);
            return partsTaking(gun, chance, 0, ALL_PARTS);
        }

        private int partsTaking(int gun, int chance, int i, int parts) {
            if (i >= risen || i >= THINGS_MOST || parts == 0) {
                return 0;
            }
            int gusts = (int) ((long) parts * chance / 100);
            int column = estate.over(order[i], now.wind);
            return partsOver(gun, chance, i, parts - gusts, column) + partsOver(gun, chance, i, gusts, column + 1);
        }

        private int partsOver(int gun, int chance, int i, int parts, int column) {
            int taker = firstInReach(now, order[i], column);
            if (taker == gun) {
                return parts;
            }
            if (taker == NONE) {
                return partsTaking(gun, chance, i + 1, parts);
            }
            takenBy[taker]++;
            int taking = partsTaking(gun, chance, i + 1, parts);
            takenBy[taker]--;
            return taking;
        }
    }

    /** ACTS that can be UNDONE, each as the Season that was ahead of it; the LOG; the IMAGE. All in rows used again. */
    private static final class Past {
        static final int LOG_MOST = 60;
        private static final int ACTS_MOST = 40;
        // Undoing brings back what the LOG had left out: as many DRIVES more as there can be ACTS.
        private static final int RING = LOG_MOST + ACTS_MOST;
        private static final int LOG_BITS = 8;

        int acts = 0;
        private int next = 0;
        private final int[] seasons = new int[ACTS_MOST * Season.SIZE];
        private final int[] entries = new int[RING];
        private boolean hasImage = false;
        private final int[] imageOfSeason = new int[Season.SIZE];
        private final int[] imageOfEntries = new int[RING];

        void keep(Season season) {
            season.save(seasons, next * Season.SIZE);
            next = (next + 1) % ACTS_MOST;
            acts = Math.min(ACTS_MOST, acts + 1);
        }

        boolean takeBack(Season season) {
            if (acts == 0) {
                return false;
            }
            next = (next + ACTS_MOST - 1) % ACTS_MOST;
            acts--;
            season.load(seasons, next * Season.SIZE);
            return true;
        }

        // By the DAY: with the DAY undone, the LOG is as it was then.
        void writeLog(int day, int taken, int letBy, int value) {
            entries[Math.floorMod(day, RING)] = taken | letBy << LOG_BITS | value << 2 * LOG_BITS;
        }

        int readLog(int day, int what) {
            return entries[Math.floorMod(day, RING)] >> what * LOG_BITS & 255;
        }

        void keepImage(Season season) {
            season.save(imageOfSeason, 0);
            System.arraycopy(entries, 0, imageOfEntries, 0, RING);
            hasImage = true;
        }

        boolean bringImageBack(Season season) {
            if (!hasImage) {
                return false;
            }
            season.load(imageOfSeason, 0);
            System.arraycopy(imageOfEntries, 0, entries, 0, RING);
            acts = 0;
            return true;
        }

        void forget() {
            acts = 0;
            hasImage = false;
        }
    }

    /** What was SEEN. */
    private static final class Sightings {
        private static final int MOST = 10;

        int many = 0;
        private final int[] things = new int[MOST];
        private final int[] winds = new int[MOST];
        private final int[] columns = new int[MOST];
        private final boolean[] were = new boolean[MOST];

        boolean add(int thing, int wind, int column, boolean is) {
            if (many >= MOST) {
                return false;
            }
            things[many] = thing;
            winds[many] = wind;
            columns[many] = column;
            were[many] = is;
            many++;
            return true;
        }

        boolean fit(Estate estate, int thing, int own) {
            for (int i = 0; i < many; i++) {
                boolean is = estate.overFrom(thing, own, winds[i]) == columns[i];
                if (things[i] == thing && is != were[i]) {
                    return false;
                }
            }
            return true;
        }

        int apart(Estate estate, int thing, int column, int wind) {
            int overIt = 0;
            int not = 0;
            for (int own = 0; own < COLUMNS; own++) {
                if (fit(estate, thing, own)) {
                    if (estate.overFrom(thing, own, wind) == column) {
                        overIt++;
                    } else {
                        not++;
                    }
                }
            }
            return overIt + not == 0 ? NONE : Math.abs(overIt - not);
        }
    }

    /** CLAIM: for each of the THINGS and each set of GUNS that claim already, the most that is still to be had. */
    private static final class Claims {
        private static final int SETS = 1 << GUNS_MOST;
        private static final int NOBODY = 9;

        private int many = 0;
        private final int[] reaches = new int[THINGS_MOST * GUNS_MOST];
        private final int[] mostFrom = new int[(THINGS_MOST + 1) * SETS];

        void gather(Ground ground) {
            ground.run(ground.now);
            many = 0;
            for (int thing = 0; thing < ground.estate.things; thing++) {
                int column = ground.estate.over(thing, ground.now.wind);
                if ((ground.letBy >> thing & 1) == 1 && isColumn(column)) {
                    for (int gun = 0; gun < ground.estate.guns; gun++) {
                        reaches[many * GUNS_MOST + gun] = ground.reach(ground.now, thing, gun, column);
                    }
                    many++;
                }
            }
        }

        void weigh(int guns) {
            Arrays.fill(mostFrom, 0);
            for (int i = many - 1; i >= 0; i--) {
                for (int set = 0; set < 1 << guns; set++) {
                    int most = mostFrom[(i + 1) * SETS + set];
                    for (int gun = 0; gun < guns; gun++) {
                        most = Math.max(most, mostBy(i, set, gun));
                    }
                    mostFrom[i * SETS + set] = most;
                }
            }
        }

        private int mostBy(int i, int set, int gun) {
            if ((set >> gun & 1) == 1) {
                return NONE;
            }
            return reaches[i * GUNS_MOST + gun] + mostFrom[(i + 1) * SETS + (set | 1 << gun)];
        }

        int total() {
            return mostFrom[0];
        }

        int row(int guns) {
            if (many == 0) {
                return NONE;
            }
            int row = 0;
            int set = 0;
            for (int i = 0; i < many; i++) {
                int digit = firstBest(i, set, guns);
                if (digit != NOBODY) {
                    set |= 1 << digit;
                }
                row = 10 * row + digit;
            }
            return row;
        }

        private int firstBest(int i, int set, int guns) {
            for (int gun = 0; gun < guns; gun++) {
                if (mostBy(i, set, gun) == mostFrom[i * SETS + set]) {
                    return gun;
                }
            }
            return NOBODY;
        }
    }

    /** GAMES of two GUNS for all x and y. */
    private static final class Duel {
        static final int STEPS = 4;

        private final int[] ones = new int[STEPS * STEPS];
        private final int[] others = new int[STEPS * STEPS];

        static boolean isStep(int x) {
            return x >= 0 && x < STEPS;
        }

        void play(Ground ground, int one, int other) {
            for (int x = 0; x < STEPS; x++) {
                for (int y = 0; y < STEPS; y++) {
                    ground.stepAside(one, other, x, y);
                    ground.run(ground.trial);
                    ones[x * STEPS + y] = ground.valueBy[one] - x;
                    others[x * STEPS + y] = ground.valueBy[other] - y;
                }
            }
        }

        boolean isRest(int x, int y) {
            int here = x * STEPS + y;
            for (int i = 0; i < STEPS; i++) {
                if (ones[i * STEPS + y] > ones[here] || others[x * STEPS + i] > others[here]) {
                    return false;
                }
            }
            return true;
        }
    }
}
