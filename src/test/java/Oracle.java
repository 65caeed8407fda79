import java.util.ArrayList;
import java.util.Arrays;
import java.util.List;
import java.util.NoSuchElementException;

/** The document once more, in the plainest way that the whole library allows: whole copies, all rows tried. */
final class Oracle {
    static final int NONE = -1;
    static final int HIDDEN = -1000000;

    static final class Now {
        int wind, coins, from, to, day, log60;
        boolean[] out;
        int[] peg, skill, bag;
        List<int[]> log = new ArrayList<>();

        Now copy() {
            Now c = new Now();
            c.wind = wind;
            c.coins = coins;
            c.from = from;
            c.to = to;
            c.day = day;
            c.out = out.clone();
            c.peg = peg.clone();
            c.skill = skill.clone();
            c.bag = bag.clone();
            c.log = new ArrayList<>(log);
            return c;
        }
    }

    static final class Drive {
        int[] taker;
        int[] value, number;
        List<Integer> risen = new ArrayList<>();
        int taken, letBy, all;
    }

    String tape = "";
    List<int[]> things = new ArrayList<>();
    int guns = 0;
    Now now = null;
    List<String> laws = new ArrayList<>();
    int holds = NONE;
    int lots = 2;
    int[] status = new int[5];
    List<Now> acts = new ArrayList<>();
    Now image = null;
    List<int[]> seen = new ArrayList<>();

    // ---- texts

    int feed(int a, int b, int c, int d, int e) {
        StringBuilder more = new StringBuilder(tape);
        for (int v : new int[] {a, b, c, d, e}) {
            for (int k = 3; k >= 0; k--) {
                char sign = (char) (v >> 8 * k & 0xff);
                if (sign != 0) {
                    more.append(sign);
                }
            }
        }
        if (more.length() > 240) {
            return NONE;
        }
        tape = more.toString();
        return tape.length();
    }

    boolean end(int n) {
        if (n < 0 || n > tape.length()) {
            return false;
        }
        tape = tape.substring(0, n);
        return true;
    }

    int fault(int sort) {
        return sort == 0 ? estateFault(tape, null) : sort == 1 ? lawFault(tape) : -2;
    }

    /** Signs one by one, a run of digits as one, with where each starts; last an empty one at the end. */
    static List<Object[]> tokens(String text) {
        List<Object[]> all = new ArrayList<>();
        int i = 0;
        while (i < text.length()) {
            int j = i + 1;
            if (isDigit(text.charAt(i))) {
                while (j < text.length() && isDigit(text.charAt(j))) {
                    j++;
                }
            }
            if (text.charAt(i) != ' ') {
                all.add(new Object[] {i, text.substring(i, j)});
            }
            i = j;
        }
        all.add(new Object[] {text.length(), ""});
        return all;
    }

    static boolean isDigit(char c) {
        return "0123456789".indexOf(c) >= 0;
    }

    /** Clauses go to `into` as {letter, w, c, l, r} and so on, if it is there. */
    static int estateFault(String text, List<int[]> into) {
        String letters = "";
        int[] most = {};
        int[] clause = null;
        String had = "";
        String clauses = "";
        int l = 0, r = 9;
        int item = 0;
        int state = 0;
        for (Object[] token : tokens(text)) {
            int at = (Integer) token[0];
            String sign = (String) token[1];
            if (state == 0) {
                int many = sign.isEmpty() ? 0 : clauses.length() - clauses.replace(sign, "").length();
                if (sign.equals("s") && many < 1) {
                    letters = "wclr";
                    most = new int[] {8, 99, 9, 9};
                    clause = new int[] {'s', 4, 20, 0, 9};
                } else if (sign.equals("t") && many < 7) {
                    letters = "xyfvk";
                    most = new int[] {9, 9, 8, 9, 3};
                    clause = new int[] {'t', 0, 0, 4, 3, 0};
                } else if (sign.equals("g") && many < 5) {
                    letters = "xs";
                    most = new int[] {9, 9};
                    clause = new int[] {'g', 0, 5};
                } else {
                    return at;
                }
                clauses += sign;
                had = "";
                state = 1;
            } else if (state == 1) {
                if (sign.equals(";") || sign.isEmpty()) {
                    if (clause[0] == 's') {
                        l = clause[3];
                        r = clause[4];
                    }
                    if (into != null) {
                        into.add(clause);
                    }
                    state = 0;
                    if (sign.isEmpty()) {
                        return clauses.contains("t") && clauses.contains("g") && l <= r ? NONE : at;
                    }
                } else if (letters.contains(sign) && !had.contains(sign)) {
                    item = letters.indexOf(sign);
                    had += sign;
                    state = 2;
                } else {
                    return at;
                }
            } else {
                if (sign.isEmpty() || !isDigit(sign.charAt(0))) {
                    return at;
                }
                if (sign.length() > 2) {
                    return at + 2;
                }
                if (Integer.parseInt(sign) > most[item]) {
                    return at + sign.length() - 1;
                }
                clause[item + 1] = Integer.parseInt(sign);
                state = 1;
            }
        }
        throw new IllegalStateException();
    }

    /** A machine with a stack of the brackets that stand open. */
    static int lawFault(String text) {
        String open = "";
        String state = "y";
        boolean compared = false, sure = false, past = false;
        for (Object[] token : tokens(text)) {
            int at = (Integer) token[0];
            String sign = (String) token[1];
            String bare = open.replace("!", "");
            boolean inSquare = open.endsWith("[");
            boolean isAtom = !sign.isEmpty() && (isDigit(sign.charAt(0)) || "vkdsmn".contains(sign));
            if (state.equals("y") || state.equals(":")) {
                if (!sign.equals(state)) {
                    return at;
                }
                state = state.equals("y") ? ":" : "unit";
                compared = false;
                sure = false;
                past = false;
                continue;
            }
            if (state.equals("unit") || state.equals("atom")) {
                boolean bracket = sign.equals("[") || state.equals("unit") && (sign.equals("!") || sign.equals("("));
                if (bracket) {
                    if (open.length() == 6) {
                        return at;
                    }
                    open += sign;
                    sure |= !sign.equals("[");
                    state = sign.equals("[") ? "atom" : "unit";
                    continue;
                }
                if (!isAtom) {
                    return at;
                }
                if (isDigit(sign.charAt(0)) && sign.length() > 4) {
                    return at + 4;
                }
                state = "behind";
                continue;
            }
            boolean whole = state.equals("behind unit") || state.equals("behind") && compared && !inSquare;
            if (state.equals("behind") && sign.length() == 1 && "+-*/".contains(sign)) {
                state = "atom";
            } else if (state.equals("behind") && inSquare && sign.equals("]")) {
                open = open.substring(0, open.length() - 1);
            } else if (state.equals("behind") && !inSquare && !compared && !past && sign.length() == 1 && "=<>".contains(sign)) {
                compared = true;
                sure = true;
                state = "atom";
            } else if (whole && (sign.equals("&") || sign.equals("|"))) {
                open = open.replaceAll("!*$", "");
                compared = false;
                state = "unit";
            } else if (whole && sign.equals(")") && bare.endsWith("(")) {
                open = open.replaceAll("\\(!*$", "");
                state = "behind unit";
            } else if (whole && sign.equals("?") && bare.isEmpty() && !past) {
                open = "";
                compared = false;
                past = true;
                state = "atom";
            } else if (state.equals("behind") && open.isEmpty() && (past || !sure) && (sign.equals(";") || sign.isEmpty())) {
                if (sign.isEmpty()) {
                    return NONE;
                }
                state = "y";
            } else {
                return at;
            }
        }
        throw new IllegalStateException();
    }

    int text(int sort) {
        if (fault(sort) != NONE) {
            return NONE;
        }
        if (sort == 0) {
            List<int[]> clauses = new ArrayList<>();
            estateFault(tape, clauses);
            settle(clauses);
            tape = "";
            return things.size();
        }
        if (laws.size() == 4) {
            return NONE;
        }
        laws.add(tape.replace(" ", ""));
        tape = "";
        return laws.size() - 1;
    }

    void settle(List<int[]> clauses) {
        things.clear();
        int[] rules = {'s', 4, 20, 0, 9};
        List<int[]> shots = new ArrayList<>();
        for (int[] clause : clauses) {
            if (clause[0] == 's') {
                rules = clause;
            } else if (clause[0] == 't') {
                things.add(Arrays.copyOfRange(clause, 1, 6));
            } else {
                shots.add(clause);
            }
        }
        guns = shots.size();
        now = new Now();
        now.wind = rules[1];
        now.coins = rules[2];
        now.from = rules[3];
        now.to = rules[4];
        now.out = new boolean[things.size()];
        Arrays.fill(now.out, true);
        now.peg = new int[guns];
        now.skill = new int[guns];
        now.bag = new int[guns];
        for (int i = 0; i < guns; i++) {
            now.peg[i] = shots.get(i)[1];
            now.skill[i] = shots.get(i)[2];
        }
        acts.clear();
        seen.clear();
        image = null;
    }

    // ---- worth: the text itself is walked each time

    static final class Walk {
        final String text;
        final int[] letters;
        int at = 0;

        Walk(String text, int[] letters) {
            this.text = text;
            this.letters = letters;
        }

        static long held(long x) {
            return Math.max(-1000000, Math.min(1000000, x));
        }

        boolean sees(String signs) {
            return at < text.length() && signs.indexOf(text.charAt(at)) >= 0;
        }

        long sum() {
            long value = term();
            while (sees("+-")) {
                char sign = text.charAt(at++);
                long other = term();
                value = held(sign == '+' ? value + other : value - other);
            }
            return value;
        }

        long term() {
            long value = atom();
            while (sees("*/")) {
                char sign = text.charAt(at++);
                long other = atom();
                value = held(sign == '*' ? value * other : other == 0 ? 0 : value / other);
            }
            return value;
        }

        long atom() {
            if (sees("[")) {
                at++;
                long value = sum();
                at++;
                return value;
            }
            if (sees("vkdsmn")) {
                return letters["vkdsmn".indexOf(text.charAt(at++))];
            }
            long value = 0;
            while (sees("0123456789")) {
                value = value * 10 + text.charAt(at++) - '0';
            }
            return value;
        }

        boolean condition() {
            boolean any = truth();
            while (sees("|")) {
                at++;
                any |= truth();
            }
            return any;
        }

        boolean truth() {
            boolean all = unit();
            while (sees("&")) {
                at++;
                all &= unit();
            }
            return all;
        }

        boolean unit() {
            if (sees("!")) {
                at++;
                return !unit();
            }
            if (sees("(")) {
                at++;
                boolean value = condition();
                at++;
                return value;
            }
            long left = sum();
            char sign = text.charAt(at++);
            long right = sum();
            return sign == '=' ? left == right : sign == '<' ? left < right : left > right;
        }
    }

    static long worth(String law, int[] letters) {
        for (String clause : law.split(";")) {
            String body = clause.substring(2);
            int mark = body.indexOf('?');
            if (mark < 0 || new Walk(body.substring(0, mark), letters).condition()) {
                return new Walk(body.substring(mark + 1), letters).sum();
            }
        }
        return 0;
    }

    // ---- drives

    int over(int thing, int column, int wind) {
        int[] t = things.get(thing);
        int rows = 9 - t[1];
        return column + (t[2] - 4) * rows / 4 + (wind - 4) * rows / 6;
    }

    int over(int thing, int wind) {
        return over(thing, things.get(thing)[0], wind);
    }

    int reach(Now n, int thing, int gun, int column, int had) {
        int far = Math.abs(n.peg[gun] - column);
        int[] t = things.get(thing);
        long worth = holds == NONE ? n.skill[gun] - 2 * far
            : worth(laws.get(holds), new int[] {t[3], t[4], far, n.skill[gun], t[1], had});
        return (int) Math.max(0, Math.min(20, worth));
    }

    boolean rises(Now n, int thing) {
        int x = things.get(thing)[0];
        return n.out[thing] && n.from <= x && x <= n.to;
    }

    /** gusts: bit i moves the i-th that rises one to the right. */
    Drive drive(Now n, int gusts) {
        Drive d = new Drive();
        d.taker = new int[things.size()];
        Arrays.fill(d.taker, NONE);
        d.value = new int[guns];
        d.number = new int[guns];
        for (int minute = 0; minute < 10; minute++) {
            for (int t = 0; t < things.size(); t++) {
                if (things.get(t)[1] == minute && rises(n, t)) {
                    d.risen.add(t);
                }
            }
        }
        for (int i = 0; i < d.risen.size(); i++) {
            int t = d.risen.get(i);
            int column = over(t, n.wind) + (gusts >> i & 1);
            int who = NONE;
            int best = 0;
            for (int g = 0; g < guns && column >= 0 && column <= 9; g++) {
                int reach = reach(n, t, g, column, d.number[g]);
                if (reach > best) {
                    best = reach;
                    who = g;
                }
            }
            d.taker[t] = who;
            if (who == NONE) {
                d.letBy |= 1 << t;
            } else {
                d.taken |= 1 << t;
                d.value[who] += things.get(t)[3];
                d.number[who]++;
                d.all += things.get(t)[3];
            }
        }
        return d;
    }

    void keep() {
        acts.add(now.copy());
        if (acts.size() > 40) {
            acts.remove(0);
        }
    }

    void go() {
        Drive d = drive(now, 0);
        now.log.add(0, new int[] {d.taken, d.letBy, d.all});
        if (now.log.size() > 60) {
            now.log.remove(60);
        }
        for (int g = 0; g < guns; g++) {
            now.bag[g] = Math.min(9999, now.bag[g] + d.value[g]);
        }
        for (int t = 0; t < things.size(); t++) {
            now.out[t] &= (d.taken >> t & 1) == 0;
        }
        now.coins = Math.min(999, now.coins + 3);
        now.day++;
    }

    // ---- the face

    boolean isThing(int t) {
        return t >= 0 && t < things.size();
    }

    boolean isGun(int g) {
        return g >= 0 && g < guns;
    }

    static boolean within(int v, int least, int most) {
        return v >= least && v <= most;
    }

    int refuse(int why) {
        status[why]++;
        return NONE;
    }

    int rule(int what) {
        return now == null || !within(what, 0, 3) ? NONE : new int[] {now.wind, now.coins, now.from, now.to}[what];
    }

    int thing(int t, int what) {
        if (!isThing(t) || !within(what, 0, 6)) {
            throw new NoSuchElementException();
        }
        if (what < 5) {
            return things.get(t)[what];
        }
        int column = over(t, now.wind);
        return what == 5 ? (now.out[t] ? 1 : 0) : within(column, 0, 9) ? column : 10;
    }

    int gun(int g, int what) {
        if (!isGun(g) || !within(what, 0, 4)) {
            return NONE;
        }
        Drive d = drive(now, 0);
        return new int[] {now.peg[g], now.skill[g], now.bag[g], d.value[g], d.number[g]}[what];
    }

    boolean law(int law) {
        if (!within(law, NONE, laws.size() - 1)) {
            return false;
        }
        holds = law;
        return true;
    }

    int drives(int n) {
        if (now == null) {
            return refuse(0);
        }
        if (!within(n, 1, 60)) {
            return refuse(1);
        }
        if (now.day + n > 999) {
            return refuse(4);
        }
        for (int i = 0; i < n; i++) {
            keep();
            go();
        }
        return now.day;
    }

    int line(int from, int to) {
        if (now == null) {
            return refuse(0);
        }
        if (!within(from, 0, 9) || !within(to, 0, 9) || from > to) {
            return refuse(1);
        }
        if (from == now.from && to == now.to) {
            return refuse(2);
        }
        keep();
        now.from = from;
        now.to = to;
        return to - from + 1;
    }

    int move(int g, int column) {
        if (!isGun(g)) {
            return refuse(0);
        }
        if (!within(column, 0, 9)) {
            return refuse(1);
        }
        if (now.peg[g] == column) {
            return refuse(2);
        }
        int cost = Math.abs(now.peg[g] - column);
        if (cost > now.coins) {
            return refuse(3);
        }
        keep();
        now.peg[g] = column;
        return now.coins -= cost;
    }

    int practise(int g) {
        if (!isGun(g)) {
            return refuse(0);
        }
        if (now.skill[g] == 9) {
            return refuse(2);
        }
        if (now.coins < 3) {
            return refuse(3);
        }
        keep();
        now.coins -= 3;
        return ++now.skill[g];
    }

    int wind(int v) {
        if (now == null) {
            return refuse(0);
        }
        if (!within(v, 0, 8)) {
            return refuse(1);
        }
        if (now.wind == v) {
            return refuse(2);
        }
        keep();
        int was = now.wind;
        now.wind = v;
        return was;
    }

    int putOut(int t) {
        if (!isThing(t)) {
            return refuse(0);
        }
        if (now.out[t]) {
            return refuse(2);
        }
        if (now.coins < 2) {
            return refuse(3);
        }
        keep();
        now.out[t] = true;
        return now.coins -= 2;
    }

    boolean lots(int v) {
        if (!within(v, 0, 9) || v == lots) {
            return false;
        }
        lots = v;
        return true;
    }

    java.math.BigInteger x;

    int draw(int j) {
        java.math.BigInteger all = java.math.BigInteger.ONE.shiftLeft(64);
        x = x.multiply(new java.math.BigInteger("6364136223846793005")).add(new java.math.BigInteger("1442695040888963407")).mod(all);
        return x.shiftRight(33).mod(java.math.BigInteger.valueOf(j)).intValue();
    }

    int years(int n, long seed) {
        if (now == null || !within(n, 1, 60) || now.day + n > 999) {
            return NONE;
        }
        x = java.math.BigInteger.valueOf(seed).mod(java.math.BigInteger.ONE.shiftLeft(64));
        for (int i = 0; i < n; i++) {
            keep();
            now.wind = draw(9);
            now.out[draw(things.size())] = true;
            if (draw(10) < lots) {
                int g = draw(guns);
                now.peg[g] = draw(10);
            }
            go();
        }
        return now.day;
    }

    int status(int what) {
        return within(what, 0, 4) ? status[what] : NONE;
    }

    int undo() {
        if (acts.isEmpty()) {
            return NONE;
        }
        now = acts.remove(acts.size() - 1);
        return acts.size();
    }

    int log(int i, int what) {
        return now == null || !within(i, 0, now.log.size() - 1) || !within(what, 0, 2) ? NONE : now.log.get(i)[what];
    }

    int taker(int t) {
        return isThing(t) ? drive(now, 0).taker[t] : NONE;
    }

    int bestLine(int n, int what) {
        if (now == null || !within(n, 1, 10) || !within(what, 0, 1)) {
            return NONE;
        }
        int best = NONE, most = NONE;
        for (int row = 0; row < 100; row++) {
            Now trial = now.copy();
            trial.from = row / 10;
            trial.to = row % 10;
            if (trial.to - trial.from + 1 == n && drive(trial, 0).all > most) {
                most = drive(trial, 0).all;
                best = row;
            }
        }
        return what == 0 ? best : most;
    }

    int bestPeg(int g, int what) {
        if (!isGun(g) || !within(what, 0, 1)) {
            return NONE;
        }
        int best = NONE, most = NONE;
        for (int column = 9; column >= 0; column--) {
            Now trial = now.copy();
            trial.peg[g] = column;
            int value = drive(trial, 0).value[g];
            if (value >= most) {
                most = value;
                best = column;
            }
        }
        return what == 0 ? best : most;
    }

    int dealt(int what) {
        if (now == null || !within(what, 0, 1)) {
            return NONE;
        }
        int[] sorted = now.peg.clone();
        Arrays.sort(sorted);
        int end = 1;
        for (int i = 0; i < guns; i++) {
            end *= 10;
        }
        int best = NONE, least = 1000;
        for (int row = 0; row < end; row++) {
            Now trial = now.copy();
            int rest = row, used = 0;
            for (int place = guns - 1; place >= 0; place--) {
                int g = rest % 10;
                rest /= 10;
                used |= 1 << g;
                if (g < guns) {
                    trial.peg[g] = sorted[place];
                }
            }
            if (used == (1 << guns) - 1) {
                int[] values = drive(trial, 0).value;
                Arrays.sort(values);
                if (values[guns - 1] - values[0] < least) {
                    least = values[guns - 1] - values[0];
                    best = row;
                }
            }
        }
        return what == 0 ? best : least;
    }

    int seen(int t, int wind, int column, boolean is) {
        if (!isThing(t) || !within(wind, 0, 8) || !within(column, 0, 9) || seen.size() == 10) {
            return NONE;
        }
        seen.add(new int[] {t, wind, column, is ? 1 : 0});
        return seen.size();
    }

    List<Integer> lie(int t) {
        List<Integer> columns = new ArrayList<>();
        for (int column = 0; column < 10; column++) {
            boolean fits = true;
            for (int[] s : seen) {
                fits &= s[0] != t || (over(t, column, s[1]) == s[2]) == (s[3] == 1);
            }
            if (fits) {
                columns.add(column);
            }
        }
        return columns;
    }

    int lay(int t, int i) {
        if (!isThing(t)) {
            return NONE;
        }
        List<Integer> columns = lie(t);
        return i == NONE ? columns.size() : within(i, 0, columns.size() - 1) ? columns.get(i) : NONE;
    }

    int ask(int t, int column) {
        if (!isThing(t) || !within(column, 0, 9) || lie(t).isEmpty()) {
            return NONE;
        }
        int best = NONE, least = 1000;
        for (int wind = 0; wind < 9; wind++) {
            int apart = 0;
            for (int own : lie(t)) {
                apart += over(t, own, wind) == column ? 1 : -1;
            }
            if (Math.abs(apart) < least) {
                least = Math.abs(apart);
                best = wind;
            }
        }
        return best;
    }

    int[] claimed;

    void claims(Drive d, List<Integer> left, int i, int row, int used, int sum) {
        if (i == left.size()) {
            if (sum > claimed[1]) {
                claimed = new int[] {row, sum};
            }
            return;
        }
        int t = left.get(i);
        for (int g = 0; g < guns; g++) {
            if ((used >> g & 1) == 0) {
                int reach = reach(now, t, g, over(t, now.wind), d.number[g]);
                claims(d, left, i + 1, row * 10 + g, used | 1 << g, sum + reach);
            }
        }
        claims(d, left, i + 1, row * 10 + 9, used, sum);
    }

    int claim(int what) {
        if (now == null || !within(what, 0, 1)) {
            return NONE;
        }
        Drive d = drive(now, 0);
        List<Integer> left = new ArrayList<>();
        for (int t = 0; t < things.size(); t++) {
            if ((d.letBy >> t & 1) == 1 && within(over(t, now.wind), 0, 9)) {
                left.add(t);
            }
        }
        claimed = new int[] {NONE, NONE};
        claims(d, left, 0, 0, 0, 0);
        return what == 1 ? claimed[1] : left.isEmpty() ? NONE : claimed[0];
    }

    int game(int one, int other, int x, int y, int what) {
        if (!isGun(one) || !isGun(other) || one == other || !within(x, 0, 3) || !within(y, 0, 3) || !within(what, 0, 1)) {
            return HIDDEN;
        }
        Now trial = now.copy();
        trial.peg[one] = Math.min(9, trial.peg[one] + x);
        trial.peg[other] = Math.min(9, trial.peg[other] + y);
        Drive d = drive(trial, 0);
        return what == 0 ? d.value[one] - x : d.value[other] - y;
    }

    int rests(int one, int other, int i) {
        if (!isGun(one) || !isGun(other) || one == other) {
            return NONE;
        }
        List<Integer> all = new ArrayList<>();
        for (int x = 0; x < 4; x++) {
            for (int y = 0; y < 4; y++) {
                boolean rest = true;
                for (int z = 0; z < 4; z++) {
                    rest &= game(one, other, z, y, 0) <= game(one, other, x, y, 0);
                    rest &= game(one, other, x, z, 1) <= game(one, other, x, y, 1);
                }
                if (rest) {
                    all.add(10 * x + y);
                }
            }
        }
        return i == NONE ? all.size() : within(i, 0, all.size() - 1) ? all.get(i) : NONE;
    }

    int odds(int g, int chance) {
        if (!isGun(g) || !within(chance, 0, 100)) {
            return NONE;
        }
        int many = drive(now, 0).risen.size();
        long sum = 0;
        for (int gusts = 0; gusts < 1 << many; gusts++) {
            long parts = 1000000000;
            for (int i = 0; i < many; i++) {
                long gusty = parts * chance / 100;
                parts = (gusts >> i & 1) == 1 ? gusty : parts - gusty;
            }
            sum += drive(now, gusts).number[g] > 0 ? parts : 0;
        }
        return (int) sum;
    }

    int bags() {
        return now == null ? 0 : Arrays.stream(now.bag).sum();
    }

    int shares(int g, int c) {
        return !isGun(g) || !within(c, 0, 999) ? NONE : bags() == 0 ? 0 : c * now.bag[g] / bags();
    }

    int rising(int minute) {
        if (now == null || !within(minute, 0, 9)) {
            return NONE;
        }
        int bits = 0;
        for (int t : drive(now, 0).risen) {
            bits |= things.get(t)[1] == minute ? 1 << t : 0;
        }
        return bits;
    }

    int most(int what) {
        if (now == null || !within(what, 0, 8)) {
            return NONE;
        }
        Drive d = drive(now, 0);
        int[] over = new int[10];
        for (int t : d.risen) {
            if (within(over(t, now.wind), 0, 9)) {
                over[over(t, now.wind)]++;
            }
        }
        int[] worth = new int[things.size()];
        int whole = 0;
        for (int t = 0; t < worth.length; t++) {
            worth[t] = now.out[t] ? things.get(t)[3] : -1;
            whole += Math.max(0, worth[t]);
        }
        int[] sorted = now.peg.clone();
        Arrays.sort(sorted);
        int gap = 0;
        for (int i = 1; i < guns; i++) {
            gap = Math.max(gap, sorted[i] - sorted[i - 1]);
        }
        switch (what) {
            case 0: return d.risen.isEmpty() ? NONE : d.risen.get(d.risen.size() - 1);
            case 1: return first(worth, 0);
            case 2: return first(over, 1);
            case 3: return first(now.bag, 0);
            case 4: return first(now.skill, 0);
            case 5: return gap;
            case 6: return whole;
            case 7: return d.all;
            default: return Integer.bitCount(d.letBy);
        }
    }

    static int first(int[] of, int least) {
        int max = Arrays.stream(of).max().getAsInt();
        for (int i = 0; i < of.length; i++) {
            if (of[i] == max && max >= least) {
                return i;
            }
        }
        return NONE;
    }

    int ahead(int n) {
        if (now == null || !within(n, 1, 9999)) {
            return NONE;
        }
        int each = drive(now, 0).all;
        int all = bags();
        int days = 0;
        while (all < n && days <= 999) {
            all += each;
            days++;
        }
        return days <= 999 ? days : NONE;
    }

    int image() {
        if (now == null) {
            return NONE;
        }
        image = now.copy();
        return now.day;
    }

    int back() {
        if (image == null) {
            return NONE;
        }
        now = image.copy();
        acts.clear();
        return now.day;
    }

    int count(int what) {
        int bits = 0;
        for (int t = 0; t < things.size(); t++) {
            bits |= now.out[t] ? 1 << t : 0;
        }
        int[] all = {things.size(), guns, laws.size(), tape.length(), holds, now == null ? 0 : now.day, bags(), bits,
            lots, seen.size(), now == null ? 0 : now.log.size(), acts.size()};
        return within(what, 0, 11) ? all[what] : HIDDEN;
    }
}
