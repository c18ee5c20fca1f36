import java.util.Arrays;
import java.util.NoSuchElementException;

/** A loaf of cells in a row, cut for guests with tastes and deserts of their own. */
public final class ToOneCrumb {
    public static final int NONE = -1;

    private static final int MOST_CELLS = 16;
    private static final int MOST_GUESTS = 6;
    private static final int TASTES = 3;
    private static final int MOST_TURNS = 16;
    private static final int MOST_CALM = 4;
    private static final int BOARD = -1;
    private static final int MOUSE = 9;
    private static final int CANNOT = -2;
    private static final int OTHERWISE = -3;
    private static final int NO_SUCH = -100;
    private static final int MISSING_SHEET = 3;
    private static final int WHOLE_DUE = 100;
    private static final int MOST_STRETCH = 200;
    private static final int MOST_PLACE = 999;
    private static final int MOST_BAKED = 999;
    private static final int MOST_SUM = 9999;
    private static final int MOST_SUPPERS = 50;
    private static final int MOST_SUPPER_SIGNS = 60;
    private static final int MOST_ACTS = 20;
    private static final int ACT_FIELDS = 4;

    private final Text text;
    private final Row row;
    private final Party party;
    private final Worths worths;
    private final Board board;
    private final Choices choices;
    private final Placing placing;
    private final Seating seating;
    private final Turns turns;
    private final int[] acts;
    private final int[] leasts;
    private Loaf bread;
    private Loaf dough;
    private Rule law;
    private Rule bill;
    private int actCount;

    public ToOneCrumb() {
        text = new Text();
        row = new Row();
        party = new Party();
        worths = new Worths();
        board = new Board();
        choices = new Choices();
        placing = new Placing();
        seating = new Seating();
        turns = new Turns();
        acts = new int[MOST_ACTS * ACT_FIELDS];
        leasts = new int[MOST_CELLS + 1];
        bread = new Loaf();
        dough = new Loaf();
        law = new Rule();
        bill = new Rule();
    }

    // ---- the loaf, the guests

    public int sign(int v) {
        return text.addFour(v);
    }

    public boolean end(int n) {
        return text.shorten(n);
    }

    public int loaf() {
        boolean stands = dough.read(text);
        text.clear();
        if (!stands) {
            return text.fault();
        }
        Loaf old = bread;
        bread = dough;
        dough = old;
        board.startAnew();
        choices.size = 0;
        renewWorths();
        return bread.cells;
    }

    public int guests() {
        int lines = party.readLines(text);
        text.clear();
        if (lines < 0) {
            return text.fault();
        }
        party.admit(lines);
        renewWorths();
        return lines;
    }

    public int deeds() {
        boolean stands = party.readDeeds(text);
        text.clear();
        if (!stands) {
            return text.fault();
        }
        party.judge();
        return party.allDeserts();
    }

    public int rule() {
        boolean stands = bill.read(text);
        text.clear();
        if (!stands) {
            return text.fault();
        }
        Rule old = law;
        law = bill;
        bill = old;
        renewWorths();
        return 0;
    }

    public int cell(int cell, int what) throws NoSuchElementException {
        if (!isCell(cell) || what < 0 || what > 3) {
            throw new NoSuchElementException("no such cell, or nothing such of it");
        }
        switch (what) {
            case 0: return bread.crumbs[cell];
            case 1: return bread.raisins[cell];
            case 2: return bread.crust[cell];
            default: return board.holderOf(cell);
        }
    }

    public int guest(int guest, int what) throws NoSuchElementException {
        if (!isGuest(guest) || what < 0 || what > 7) {
            throw new NoSuchElementException("no such guest, or nothing such of it");
        }
        switch (what) {
            case 3: return party.deserts[guest];
            case 4: return cellsWith(guest);
            case 5: return worthHeld(guest, guest);
            case 6: return worths.whole(guest);
            case 7: return hasDue(guest) ? 1 : 0;
            default: return party.tasteOf(guest, what);
        }
    }

    public int worth(int guest, int cell) {
        return isGuest(guest) && isCell(cell) ? worths.of(guest, cell) : NONE;
    }

    public int taste(int guest, int what, int v) {
        if (!isGuest(guest) || what < 0 || what >= TASTES || v < 0 || v > 9) {
            return NONE;
        }
        int was = party.tasteOf(guest, what);
        party.likes[guest * TASTES + what] = v;
        renewWorths();
        return was;
    }

    public int sheet(int kind, int n, int f, int step) {
        if (kind < 0 || kind > MISSING_SHEET || n > MOST_CELLS) {
            return NONE;
        }
        if (kind != MISSING_SHEET && n < 0) {
            return CANNOT;
        }
        int entries = kind == MISSING_SHEET ? 0 : n;
        int sum = 0;
        for (int cell = 0; cell < bread.cells; cell++) {
            int raisins = cell < entries ? sheetEntry(kind, f + step * cell) : 0;
            bread.raisins[cell] = raisins;
            sum += raisins;
        }
        renewWorths();
        return kind == MISSING_SHEET ? OTHERWISE : sum;
    }

    // ---- slices

    public int give(int guest, int from, int to) {
        long before = board.holders;
        return remembered(before, giveSlice(guest, from, to));
    }

    public int back(int from, int to) {
        long before = board.holders;
        return remembered(before, takeBack(from, to));
    }

    public int mouse(int cell) {
        long before = board.holders;
        return remembered(before, feedMouse(cell));
    }

    public int supper() {
        boolean stands = readActs();
        text.clear();
        if (!stands) {
            return text.fault();
        }
        long before = board.holders;
        int done = 0;
        while (done < actCount && doAct(done) >= 0) {
            done++;
        }
        if (done > 0) {
            board.remember(before);
        }
        row.clear();
        row.add(done < actCount ? 1 : 0);
        row.add(cellsWith(BOARD));
        return done;
    }

    public int undo() {
        return board.stepBack();
    }

    // ---- who has what

    public int seen(int guest, int holder) {
        return isGuest(guest) && isGuest(holder) ? worthHeld(guest, holder) : NONE;
    }

    public int envy() {
        int pairs = 0;
        row.clear();
        for (int who = 0; who < party.size; who++) {
            int own = worthHeld(who, who);
            for (int whose = 0; whose < party.size; whose++) {
                if (worthHeld(who, whose) > own) {
                    if (pairs == 0) {
                        row.add(who);
                        row.add(whose);
                    }
                    pairs++;
                }
            }
        }
        return pairs;
    }

    public int wronged() {
        int those = 0;
        for (int guest = 0; guest < party.size; guest++) {
            if (!hasDue(guest)) {
                those |= 1 << guest;
            }
        }
        int places = 0;
        for (int cell = 1; cell < bread.cells; cell++) {
            if (board.holderOf(cell - 1) != board.holderOf(cell)) {
                places++;
            }
        }
        row.clear();
        row.add(Integer.bitCount(those));
        row.add(places);
        return those;
    }

    public int happiest() {
        if (party.size == 0) {
            return CANNOT;
        }
        int best = 0;
        long bestHas = 0;
        long bestWhole = 1;
        for (int guest = 0; guest < party.size; guest++) {
            long has = worthHeld(guest, guest);
            long whole = worths.whole(guest);
            if (has * bestWhole > bestHas * whole) {
                best = guest;
                bestHas = has;
                bestWhole = whole;
            }
        }
        row.clear();
        row.addFraction(bestHas, bestWhole);
        return best;
    }

    public int pieces(int guest) {
        if (!isGuest(guest)) {
            return NONE;
        }
        int many = 0;
        int length = 0;
        int longest = 0;
        int first = NONE;
        for (int cell = 0; cell < bread.cells; cell++) {
            length = board.holderOf(cell) == guest ? length + 1 : 0;
            if (length == 1) {
                many++;
            }
            if (length > longest) {
                longest = length;
                first = cell + 1 - length;
            }
        }
        row.clear();
        row.add(first);
        row.add(longest);
        return many;
    }

    public int trade(int guest, int other) {
        if (!isGuest(guest) || !isGuest(other) || guest == other) {
            return NONE;
        }
        int pairs = 0;
        int most = 0;
        row.clear();
        for (int mine = 0; mine < bread.cells; mine++) {
            if (board.holderOf(mine) != guest) {
                continue;
            }
            for (int theirs = 0; theirs < bread.cells; theirs++) {
                int gain = board.holderOf(theirs) == other ? jointGain(guest, mine, other, theirs) : 0;
                if (gain > 0) {
                    pairs++;
                }
                if (gain > most) {
                    most = gain;
                    row.clear();
                    row.add(mine);
                    row.add(theirs);
                }
            }
        }
        return pairs;
    }

    // ---- fair slices

    public int slices(int those) {
        if (!areGuests(those)) {
            return NONE;
        }
        placeGuests(WHOLE_DUE);
        if (!placing.canServe(those)) {
            return CANNOT;
        }
        row.clear();
        placing.tellOrder(those, row);
        return placing.least[those];
    }

    public int quarrel() {
        placeGuests(WHOLE_DUE);
        int smallest = 0;
        int fewest = MOST_GUESTS + 1;
        int all = everyone();
        for (int those = 1; those <= all; those++) {
            int many = Integer.bitCount(those);
            if (many < fewest && !placing.canServe(those)) {
                fewest = many;
                smallest = those;
            }
        }
        if (smallest == 0) {
            return CANNOT;
        }
        row.clear();
        row.add(fewest);
        return smallest;
    }

    public int stretch() {
        if (party.size == 0) {
            return CANNOT;
        }
        // more percents never shorten a slice, so halving finds the last that can be
        int low = 0;
        int high = MOST_STRETCH;
        for (int tries = 0; tries < MOST_STRETCH && low < high; tries++) {
            int middle = (low + high + 1) / 2;
            placeGuests(middle);
            if (placing.canServe(everyone())) {
                low = middle;
            } else {
                high = middle - 1;
            }
        }
        return low;
    }

    public int richest(int guest, int n) {
        if (!isGuest(guest) || n < 1 || n > bread.cells) {
            return NONE;
        }
        int best = 0;
        for (int from = 1; from + n <= bread.cells; from++) {
            if (worths.between(guest, from, from + n) > worths.between(guest, best, best + n)) {
                best = from;
            }
        }
        row.clear();
        row.add(worths.between(guest, best, best + n));
        return best;
    }

    public int parts(int guest, int n) {
        if (!isGuest(guest) || n < 1 || n > MOST_GUESTS) {
            return NONE;
        }
        if (bread.cells < n) {
            return CANNOT;
        }
        int good = bestOfLeasts(guest, n);
        int from = 0;
        row.clear();
        for (int part = 1; part < n; part++) {
            // the shortest part that is good enough leaves the most for those behind it
            int to = from + 1;
            while (to < bread.cells && worths.between(guest, from, to) < good) {
                to++;
            }
            row.add(to - 1);
            from = to;
        }
        row.add(bread.cells - 1);
        return good;
    }

    public int calm() {
        if (party.size > MOST_CALM) {
            return OTHERWISE;
        }
        if (party.size == 0) {
            return CANNOT;
        }
        row.clear();
        return seating.ways(worths, party.size, row);
    }

    // ---- cutting and choosing

    public int cuts(int guest, int other) {
        if (!isGuest(guest) || !isGuest(other) || guest == other || bread.cells == 0) {
            return NONE;
        }
        int whole = worths.whole(guest);
        int ahead = 0;
        int nearest = whole;
        for (int cell = 1; cell <= bread.cells; cell++) {
            int apart = Math.abs(whole - 2 * worths.between(guest, 0, cell));
            if (apart < nearest) {
                nearest = apart;
                ahead = cell;
            }
        }
        int first = worths.between(other, 0, ahead);
        int second = worths.between(other, ahead, bread.cells);
        boolean takesFirst = first >= second;
        int cutFirst = worths.between(guest, 0, ahead);
        row.clear();
        row.add(takesFirst ? whole - cutFirst : cutFirst);
        row.add(takesFirst ? first : second);
        row.add(takesFirst ? 0 : 1);
        return ahead;
    }

    public int byturns() {
        boolean stands = turns.read(text, party.size);
        text.clear();
        if (!stands) {
            return text.fault();
        }
        turns.startTaking(worths);
        int taken = turns.takeAll(worths);
        row.clear();
        for (int guest = 0; guest < party.size; guest++) {
            row.add(turns.has[guest]);
        }
        return taken;
    }

    public int lies(int guest) {
        boolean stands = isGuest(guest) && turns.read(text, party.size);
        text.clear();
        if (!isGuest(guest)) {
            return NO_SUCH;
        }
        if (!stands) {
            return text.fault();
        }
        turns.startTaking(worths);
        turns.takeAll(worths);
        int honest = turns.has[guest];
        int most = 0;
        row.clear();
        for (int lie = 0; lie < TASTES * 10; lie++) {
            int gain = hasByLie(guest, lie / 10, lie % 10) - honest;
            if (gain > most) {
                most = gain;
                row.clear();
                row.add(lie / 10);
                row.add(lie % 10);
            }
        }
        return most;
    }

    // ---- tastes by choices

    public int chose(int cell, int other) {
        if (!isCell(cell) || !isCell(other) || cell == other) {
            return NONE;
        }
        return choices.tell(cell, other);
    }

    public int forget() {
        int many = choices.size;
        choices.size = 0;
        return many;
    }

    public int tastes(int guest) {
        if (!isGuest(guest)) {
            return NONE;
        }
        int fitting = choices.countFitting(law, bread, guest);
        row.clear();
        for (int taste = 0; fitting > 0 && taste < TASTES; taste++) {
            row.add(choices.leastTastes[taste]);
        }
        return fitting;
    }

    public int offer(int guest) {
        if (!isGuest(guest)) {
            return NONE;
        }
        if (bread.cells < 2) {
            return CANNOT;
        }
        choices.countPairs(law, bread, guest);
        int best = NONE;
        int fewest = 0;
        for (int lesser = 0; lesser < bread.cells; lesser++) {
            for (int greater = lesser + 1; greater < bread.cells; greater++) {
                int left = choices.leftAtMost(lesser, greater);
                if (best == NONE || left < fewest) {
                    best = lesser * MOST_CELLS + greater;
                    fewest = left;
                }
            }
        }
        row.clear();
        row.add(fewest);
        return best;
    }

    // ---- claims, lines, remainders

    public int claims() {
        placing.start(bread.cells);
        boolean stands = placing.readClaims(text, party.size);
        text.clear();
        if (!stands) {
            return text.fault();
        }
        placing.spread(worths);
        int greatest = 0;
        int many = 0;
        for (int those = 1; those < 1 << placing.members; those++) {
            int count = Integer.bitCount(those);
            if (count > many && placing.canServe(those)) {
                many = count;
                greatest = those;
            }
        }
        row.clear();
        row.add(many);
        row.add(placing.least[greatest]);
        return greatest;
    }

    public int settle(int p, int q) {
        if (p < 0 || p > MOST_PLACE || q < 0 || q > MOST_PLACE) {
            return NONE;
        }
        int low = Math.min(p, q);
        int high = Math.max(p, q);
        boolean firstIsLow = p <= q;
        int moves = 0;
        while (moves <= MOST_PLACE && Math.abs(high - low) > 1) {
            if (low > high) {
                int swap = low;
                low = high;
                high = swap;
                firstIsLow = !firstIsLow;
            }
            low += (high - low) / 3 + 1;
            high -= Math.abs(high - low) / 3 + 1;
            moves++;
        }
        row.clear();
        row.add(firstIsLow ? high : low);
        row.add(moves);
        return firstIsLow ? low : high;
    }

    public int nothing() {
        int all = party.allDeserts();
        if (all <= 0) {
            return CANNOT;
        }
        int crumbs = bread.allCrumbs();
        int baked = 0;
        while (baked <= MOST_BAKED && !party.canPart(crumbs + baked, all)) {
            baked++;
        }
        if (baked > MOST_BAKED) {
            return CANNOT;
        }
        row.clear();
        for (int guest = 0; guest < party.size; guest++) {
            row.add((long) (crumbs + baked) * party.deserts[guest] / all);
        }
        return baked;
    }

    public int ate(int v) {
        if (v < 0 || v > MOST_SUM) {
            return NONE;
        }
        int many = 0;
        int smallest = NONE;
        int all = everyone();
        int inAll = all;
        for (int those = 0; those <= all; those++) {
            if (party.desertsOf(those) == v) {
                if (many == 0 || Integer.bitCount(those) < Integer.bitCount(smallest)) {
                    smallest = those;
                }
                inAll &= those;
                many++;
            }
        }
        row.clear();
        row.add(smallest);
        row.add(many == 0 ? 0 : inAll);
        return many;
    }

    // ---- guests by chance

    public int enough(int p, int v) {
        if (p < 0 || p > 10 || v < 0 || v > MOST_SUM) {
            return NONE;
        }
        row.clear();
        row.addFraction(party.chanceOf(p, v), party.allChances());
        return 0;
    }

    public int wide(int p, int n) {
        if (p < 0 || p > 10 || n < 0 || n > 100) {
            return NONE;
        }
        // the chance grows only where some set of guests is just met
        int least = party.allDeserts();
        int all = everyone();
        for (int those = 0; those <= all; those++) {
            int sum = party.desertsOf(those);
            if (sum < least && party.chanceOf(p, sum) * 100 >= n * party.allChances()) {
                least = sum;
            }
        }
        return least;
    }

    public int suppers(int seed, int n) {
        if (n < 1 || n > MOST_SUPPERS || party.size == 0) {
            return NONE;
        }
        int drawn = seed;
        turns.startTaking(worths);
        for (int supper = 0; supper < n; supper++) {
            turns.size = bread.cells;
            for (int turn = 0; turn < bread.cells; turn++) {
                drawn = drawn * 1103515245 + 12345;
                turns.whose[turn] = (drawn >>> 16) % party.size;
            }
            turns.takeAll(worths);
        }
        int best = 0;
        row.clear();
        for (int guest = 0; guest < party.size; guest++) {
            row.add(turns.has[guest]);
            if (turns.has[guest] > turns.has[best]) {
                best = guest;
            }
        }
        return best;
    }

    // ---- kept

    public boolean keep(int i) {
        return board.store(i);
    }

    public boolean again(int i) {
        return board.restore(i);
    }

    public int count(int what) {
        switch (what) {
            case 0: return bread.cells;
            case 1: return party.size;
            case 2: return cellsWith(BOARD);
            case 3: return cellsWith(MOUSE);
            case 4: return bread.allCrumbs();
            case 5: return party.allDeserts();
            case 6: return choices.size;
            case 7: return board.pasts;
            case 8: return row.size;
            case 9: return text.size;
            default: return NO_SUCH;
        }
    }

    public long row(int i) throws NoSuchElementException {
        if (i < 0 || i >= row.size) {
            throw new NoSuchElementException("no such number of the row");
        }
        return row.numbers[i];
    }

    // ---- what several calls share

    private boolean isCell(int cell) {
        return cell >= 0 && cell < bread.cells;
    }

    private boolean isGuest(int guest) {
        return guest >= 0 && guest < party.size;
    }

    private int everyone() {
        return (1 << party.size) - 1;
    }

    private boolean areGuests(int those) {
        return those >= 0 && those <= everyone();
    }

    private void renewWorths() {
        worths.renew(law, bread, party);
    }

    private static int sheetEntry(int kind, int v) {
        int entry = kind == 0 ? (byte) v : kind == 1 ? (short) v : v;
        return Math.max(0, Math.min(9, entry));
    }

    private int cellsWith(int holder) {
        int many = 0;
        for (int cell = 0; cell < bread.cells; cell++) {
            if (board.holderOf(cell) == holder) {
                many++;
            }
        }
        return many;
    }

    private int worthHeld(int guest, int holder) {
        int sum = 0;
        for (int cell = 0; cell < bread.cells; cell++) {
            if (board.holderOf(cell) == holder) {
                sum += worths.of(guest, cell);
            }
        }
        return sum;
    }

    private boolean hasDue(int guest) {
        long has = (long) worthHeld(guest, guest) * party.allDeserts();
        return has >= (long) party.deserts[guest] * worths.whole(guest);
    }

    /** Puts what stood ahead of a call where it can be undone, if the call was not refused. */
    private int remembered(long before, int answer) {
        if (answer >= 0) {
            board.remember(before);
        }
        return answer;
    }

    private boolean isSlice(int from, int to) {
        return isCell(from) && isCell(to) && from <= to;
    }

    private int giveSlice(int guest, int from, int to) {
        if (!isGuest(guest) || !isSlice(from, to)) {
            return NONE;
        }
        for (int cell = from; cell <= to; cell++) {
            if (board.holderOf(cell) != BOARD) {
                return CANNOT;
            }
        }
        for (int cell = from; cell <= to; cell++) {
            board.put(cell, guest);
        }
        return worths.between(guest, from, to + 1);
    }

    private int takeBack(int from, int to) {
        if (!isSlice(from, to)) {
            return NONE;
        }
        int many = 0;
        for (int cell = from; cell <= to; cell++) {
            int holder = board.holderOf(cell);
            if (holder != BOARD && holder != MOUSE) {
                board.put(cell, BOARD);
                many++;
            }
        }
        return many;
    }

    private int feedMouse(int cell) {
        if (!isCell(cell)) {
            return NONE;
        }
        if (board.holderOf(cell) != BOARD) {
            return CANNOT;
        }
        board.put(cell, MOUSE);
        return bread.crumbs[cell];
    }

    private boolean readActs() {
        actCount = 0;
        text.start(MOST_SUPPER_SIGNS);
        if (text.isFinished()) {
            return true;
        }
        while (actCount < MOST_ACTS) {
            if (!readAct(actCount * ACT_FIELDS)) {
                return false;
            }
            actCount++;
            if (!text.skip(';')) {
                return text.isFinished();
            }
        }
        return false;
    }

    private boolean readAct(int at) {
        int kind = text.next();
        if (kind != 'g' && kind != 'b' && kind != 'm') {
            return false;
        }
        text.skip(kind);
        int who = kind == 'g' ? text.takeLetter(MOST_GUESTS) : 0;
        int from = who < 0 ? NONE : text.takeNumber(2);
        if (from < 0) {
            return false;
        }
        int to = kind == 'm' ? from : text.skip('-') ? text.takeNumber(2) : NONE;
        acts[at] = kind;
        acts[at + 1] = who;
        acts[at + 2] = from;
        acts[at + 3] = to;
        return to >= 0;
    }

    private int doAct(int act) {
        int at = act * ACT_FIELDS;
        switch (acts[at]) {
            case 'g': return giveSlice(acts[at + 1], acts[at + 2], acts[at + 3]);
            case 'b': return takeBack(acts[at + 2], acts[at + 3]);
            default: return feedMouse(acts[at + 2]);
        }
    }

    /** What both gain together if they exchange these cells; 0 if not both gain. */
    private int jointGain(int guest, int mine, int other, int theirs) {
        int gain = worths.of(guest, theirs) - worths.of(guest, mine);
        int otherGain = worths.of(other, mine) - worths.of(other, theirs);
        return gain > 0 && otherGain > 0 ? gain + otherGain : 0;
    }

    private void placeGuests(int percent) {
        placing.start(bread.cells);
        long all = party.allDeserts();
        for (int guest = 0; guest < party.size; guest++) {
            long due = (long) party.deserts[guest] * worths.whole(guest) * percent;
            placing.addMember(guest, all * WHOLE_DUE, due);
        }
        placing.spread(worths);
    }

    /** The most that the least of n parts can be worth; leasts[c] tells it of the cells from c on. */
    private int bestOfLeasts(int guest, int n) {
        int cells = bread.cells;
        for (int from = 0; from <= cells; from++) {
            leasts[from] = from < cells ? worths.between(guest, from, cells) : NONE;
        }
        for (int part = 1; part < n; part++) {
            for (int from = 0; from <= cells; from++) {
                int best = NONE;
                for (int to = from + 1; to <= cells; to++) {
                    best = Math.max(best, Math.min(worths.between(guest, from, to), leasts[to]));
                }
                leasts[from] = best;
            }
        }
        return leasts[0];
    }

    private int hasByLie(int guest, int what, int v) {
        int truth = party.tasteOf(guest, what);
        party.likes[guest * TASTES + what] = v;
        turns.startTaking(worths);
        for (int cell = 0; cell < bread.cells; cell++) {
            turns.told[guest * MOST_CELLS + cell] = law.worthOf(bread, cell, guest, party.likes, guest * TASTES);
        }
        party.likes[guest * TASTES + what] = truth;
        turns.takeAll(worths);
        return turns.has[guest];
    }

    /** THE TEXT, and how far it has been read: a reader stays at the first sign that can't stand. */
    private static final class Text {
        private static final int MOST_SIGNS = 80;
        private final int[] signs = new int[MOST_SIGNS];
        private int size;
        private int stop;
        private int place;

        int addFour(int v) {
            if (size + 4 > MOST_SIGNS) {
                return NONE;
            }
            for (int shift = 24; shift >= 0; shift -= 8) {
                signs[size] = v >>> shift & 255;
                size++;
            }
            return size;
        }

        boolean shorten(int n) {
            if (n < 0 || n > size) {
                return false;
            }
            size = n;
            return true;
        }

        void clear() {
            size = 0;
        }

        /** Signs behind the limit are never read, so that a reader stays at the limit if there are more. */
        void start(int limit) {
            place = 0;
            stop = Math.min(size, limit);
        }

        boolean isFinished() {
            return place >= size;
        }

        int fault() {
            return -1 - place;
        }

        int next() {
            return place < stop ? signs[place] : NONE;
        }

        boolean skip(int wanted) {
            if (place >= stop || signs[place] != wanted) {
                return false;
            }
            place++;
            return true;
        }

        int takeDigit(int least) {
            int digit = next() - '0';
            if (digit < least || digit > 9) {
                return NONE;
            }
            place++;
            return digit;
        }

        int takeNumber(int mostDigits) {
            int number = takeDigit(0);
            for (int digits = 1; number >= 0 && digits < mostDigits; digits++) {
                int digit = takeDigit(0);
                if (digit < 0) {
                    break;
                }
                number = number * 10 + digit;
            }
            return number;
        }

        /** The number of one of the first so many letters. */
        int takeLetter(int many) {
            int letter = next() - 'a';
            if (letter < 0 || letter >= many) {
                return NONE;
            }
            place++;
            return letter;
        }
    }

    private static final class Row {
        private final long[] numbers = new long[MOST_CELLS];
        private int size;

        void clear() {
            size = 0;
        }

        void add(long number) {
            if (size < numbers.length) {
                numbers[size] = number;
                size++;
            }
        }

        void addFraction(long upper, long lower) {
            long a = upper;
            long b = lower;
            for (int step = 0; step < 100 && b != 0; step++) {
                long rest = a % b;
                a = b;
                b = rest;
            }
            add(a == 0 ? upper : upper / a);
            add(a == 0 ? lower : lower / a);
        }
    }

    private static final class Loaf {
        private static final int MOST_SIGNS = 64;
        private static final int MOST_RAISINS = 9;
        private final int[] crumbs = new int[MOST_CELLS];
        private final int[] raisins = new int[MOST_CELLS];
        private final int[] crust = new int[MOST_CELLS];
        private int cells;

        boolean read(Text text) {
            text.start(MOST_SIGNS);
            cells = 0;
            while (cells < MOST_CELLS && !text.isFinished()) {
                int digit = text.takeDigit(1);
                if (digit < 0) {
                    return false;
                }
                crumbs[cells] = digit;
                int letter = text.takeLetter(MOST_RAISINS);
                raisins[cells] = letter < 0 ? 0 : letter + 1;
                crust[cells] = text.skip('*') ? 1 : 0;
                cells++;
            }
            return text.isFinished();
        }

        int allCrumbs() {
            int sum = 0;
            for (int cell = 0; cell < cells; cell++) {
                sum += crumbs[cell];
            }
            return sum;
        }
    }

    /** The guests, with tastes and deserts. */
    private static final class Party {
        private static final int MOST_GUEST_SIGNS = 23;
        private static final int MOST_DEED_SIGNS = 60;
        private final int[] likes = new int[MOST_GUESTS * TASTES];
        private final int[] deserts = new int[MOST_GUESTS];
        private final int[] earned = new int[MOST_GUESTS];
        private int size;

        int tasteOf(int guest, int what) {
            return likes[guest * TASTES + what];
        }

        /** Writes behind the guests that are there, so that nothing has come before admit(). */
        int readLines(Text text) {
            text.start(MOST_GUEST_SIGNS);
            if (text.isFinished()) {
                return 0;
            }
            for (int guest = size; guest < MOST_GUESTS; guest++) {
                for (int what = 0; what < TASTES; what++) {
                    int digit = text.takeDigit(0);
                    if (digit < 0) {
                        return NONE;
                    }
                    likes[guest * TASTES + what] = digit;
                }
                if (!text.skip(';')) {
                    return text.isFinished() ? guest + 1 - size : NONE;
                }
            }
            return NONE;
        }

        void admit(int lines) {
            for (int line = 0; line < lines && size < MOST_GUESTS; line++) {
                deserts[size] = 1;
                size++;
            }
        }

        boolean readDeeds(Text text) {
            Arrays.fill(earned, 0);
            text.start(MOST_DEED_SIGNS);
            if (text.isFinished()) {
                return true;
            }
            for (int line = 0; line < MOST_DEED_SIGNS; line++) {
                if (!readDeed(text)) {
                    return false;
                }
                if (!text.skip(';')) {
                    return text.isFinished();
                }
            }
            return false;
        }

        private boolean readDeed(Text text) {
            int kind = text.next();
            if (kind != 'f' && kind != 'y' && kind != 'x' && kind != 'g') {
                return false;
            }
            text.skip(kind);
            int who = text.takeLetter(size);
            if (who < 0) {
                return false;
            }
            int whom = NONE;
            if (kind == 'x' || kind == 'g') {
                whom = text.next() == 'a' + who ? NONE : text.takeLetter(size);
                if (whom < 0) {
                    return false;
                }
            }
            int much = text.takeDigit(0);
            if (much < 0) {
                return false;
            }
            earned[who] += kind == 'f' ? 3 * much : kind == 'y' ? 2 * much : kind == 'x' ? -much : much;
            if (kind == 'x') {
                earned[whom] += much;
            }
            return true;
        }

        void judge() {
            for (int guest = 0; guest < size; guest++) {
                deserts[guest] = Math.max(0, earned[guest]);
            }
        }

        int desertsOf(int those) {
            int sum = 0;
            for (int guest = 0; guest < size; guest++) {
                if ((those >> guest & 1) != 0) {
                    sum += deserts[guest];
                }
            }
            return sum;
        }

        int allDeserts() {
            return desertsOf((1 << size) - 1);
        }

        boolean canPart(int crumbs, int all) {
            for (int guest = 0; guest < size && all > 0; guest++) {
                if ((long) crumbs * deserts[guest] % all != 0) {
                    return false;
                }
            }
            return all > 0;
        }

        /** In how many of allChances() ways those who come deserve v or less, if p of 10 ways let one come. */
        long chanceOf(int p, int v) {
            long sum = 0;
            for (int those = 0; those < 1 << size; those++) {
                if (desertsOf(those) <= v) {
                    long ways = 1;
                    for (int guest = 0; guest < size; guest++) {
                        ways *= (those >> guest & 1) != 0 ? p : 10 - p;
                    }
                    sum += ways;
                }
            }
            return sum;
        }

        long allChances() {
            long ways = 1;
            for (int guest = 0; guest < size; guest++) {
                ways *= 10;
            }
            return ways;
        }
    }

    /** THE RULE as steps, operands ahead of what joins them; without steps the plain one. */
    private static final class Rule {
        private static final int MOST_SIGNS = 40;
        private static final int MOST_NESTED = 4;
        private static final int MOST_WORTH = 999;
        /** Steps below this one are numbers, the others are signs behind it. */
        private static final int SIGNS = 1000;
        /** A minus ahead of a thing; no sign of a text has this number. */
        private static final int NEGATE = 256;
        private final int[] steps = new int[MOST_SIGNS];
        private final int[] waiting = new int[MOST_SIGNS];
        private final int[] values = new int[MOST_SIGNS];
        private int size;
        private int waits;
        private int depth;
        private int compared;
        private boolean wantsThing;

        boolean read(Text text) {
            size = 0;
            waits = 0;
            depth = 0;
            compared = 0;
            wantsThing = true;
            text.start(MOST_SIGNS);
            if (text.isFinished()) {
                return true;
            }
            for (int n = 0; n < MOST_SIGNS && text.next() >= 0; n++) {
                boolean fits = wantsThing ? readThing(text) : readJoint(text);
                if (!fits) {
                    return false;
                }
            }
            if (wantsThing || depth > 0 || !text.isFinished()) {
                return false;
            }
            release(1);
            return true;
        }

        private boolean readThing(Text text) {
            int number = text.takeNumber(3);
            if (number >= 0) {
                addStep(number);
                wantsThing = false;
                return true;
            }
            int sign = text.next();
            if (sign == '-') {
                hold(NEGATE);
            } else if (sign == '(' && depth < MOST_NESTED) {
                hold(sign);
                depth++;
                compared &= ~(1 << depth);
            } else if (isLetter(sign)) {
                addStep(SIGNS + sign);
                wantsThing = false;
            } else {
                return false;
            }
            return text.skip(sign);
        }

        private boolean readJoint(Text text) {
            int sign = text.next();
            int strength = strengthOf(sign);
            if (sign == ')' && depth > 0) {
                release(1);
                waits = Math.max(0, waits - 1);
                depth--;
            } else if (strength > 1 || strength == 1 && (compared >> depth & 1) == 0) {
                release(strength);
                hold(sign);
                wantsThing = true;
                if (strength == 1) {
                    compared |= 1 << depth;
                }
            } else {
                return false;
            }
            return text.skip(sign);
        }

        private static boolean isLetter(int sign) {
            switch (sign) {
                case 'c': case 'r': case 'k': case 'a': case 'b': case 'd': case 'i': case 'p': case 'e':
                    return true;
                default:
                    return false;
            }
        }

        private static int strengthOf(int sign) {
            switch (sign) {
                case '<': case '>': case '=': return 1;
                case '+': case '-': return 2;
                case '*': case '/': return 3;
                case NEGATE: return 4;
                default: return 0;
            }
        }

        private void hold(int sign) {
            if (waits < waiting.length) {
                waiting[waits] = sign;
                waits++;
            }
        }

        private void addStep(int step) {
            if (size < steps.length) {
                steps[size] = step;
                size++;
            }
        }

        /** What waits and binds as strongly comes now; an open bracket, of strength 0, ends it. */
        private void release(int strength) {
            while (waits > 0 && strengthOf(waiting[waits - 1]) >= strength) {
                waits--;
                addStep(SIGNS + waiting[waits]);
            }
        }

        /** What a cell is worth to a guest whose tastes stand in likes from at on. */
        int worthOf(Loaf loaf, int cell, int guest, int[] likes, int at) {
            if (cell < 0 || cell >= MOST_CELLS || at < 0 || at + TASTES > likes.length) {
                return 0;
            }
            int worth;
            if (size == 0) {
                worth = loaf.crumbs[cell] * likes[at] + loaf.raisins[cell] * likes[at + 1]
                        + loaf.crust[cell] * likes[at + 2];
            } else {
                worth = walk(loaf, cell, guest, likes, at);
            }
            return Math.max(0, Math.min(MOST_WORTH, worth));
        }

        private int walk(Loaf loaf, int cell, int guest, int[] likes, int at) {
            int top = 0;
            for (int n = 0; n < size; n++) {
                int sign = steps[n] - SIGNS;
                int strength = sign < 0 ? 0 : strengthOf(sign);
                if (strength == 0 && top < values.length) {
                    values[top] = sign < 0 ? steps[n] : valueOf(sign, loaf, cell, guest, likes, at);
                    top++;
                } else if (sign == NEGATE && top > 0) {
                    values[top - 1] = -values[top - 1];
                } else if (top > 1) {
                    top--;
                    values[top - 1] = joined(sign, values[top - 1], values[top]);
                }
            }
            return values[0];
        }

        private static int valueOf(int letter, Loaf loaf, int cell, int guest, int[] likes, int at) {
            switch (letter) {
                case 'c': return loaf.crumbs[cell];
                case 'r': return loaf.raisins[cell];
                case 'k': return loaf.crust[cell];
                case 'a': return likes[at];
                case 'b': return likes[at + 1];
                case 'd': return likes[at + 2];
                case 'i': return guest;
                case 'p': return cell;
                default: return cell == 0 || cell == loaf.cells - 1 ? 1 : 0;
            }
        }

        private static int joined(int sign, int left, int right) {
            switch (sign) {
                case '<': return left < right ? 1 : 0;
                case '>': return left > right ? 1 : 0;
                case '=': return left == right ? 1 : 0;
                case '+': return left + right;
                case '-': return left - right;
                case '*': return left * right;
                default: return right == 0 ? 0 : left / right;
            }
        }
    }

    /** What each cell is worth to each guest, and what all cells ahead of a place are. */
    private static final class Worths {
        private static final int PLACES = MOST_CELLS + 1;
        private final int[] each = new int[MOST_GUESTS * MOST_CELLS];
        private final int[] ahead = new int[MOST_GUESTS * PLACES];
        private int cells;

        void renew(Rule rule, Loaf loaf, Party party) {
            cells = loaf.cells;
            for (int guest = 0; guest < party.size; guest++) {
                int sum = 0;
                for (int cell = 0; cell < cells; cell++) {
                    int worth = rule.worthOf(loaf, cell, guest, party.likes, guest * TASTES);
                    each[guest * MOST_CELLS + cell] = worth;
                    sum += worth;
                    ahead[guest * PLACES + cell + 1] = sum;
                }
            }
        }

        int of(int guest, int cell) {
            return each[guest * MOST_CELLS + cell];
        }

        /** What the cells from .. to - 1 are worth. */
        int between(int guest, int from, int to) {
            return ahead[guest * PLACES + to] - ahead[guest * PLACES + from];
        }

        int whole(int guest) {
            return between(guest, 0, cells);
        }
    }

    /** With whom cells are: now, ahead of what can be undone, and as kept. */
    private static final class Board {
        private static final int MOST_PASTS = 15;
        private static final int MOST_KEPT = 3;
        private final long[] past = new long[MOST_PASTS];
        private final long[] kept = new long[MOST_KEPT];
        /** Four bits a cell, one more than the holder's number, so that 0 has all on the board. */
        private long holders;
        private int pasts;
        private int whichKept;

        int holderOf(int cell) {
            return (int) (holders >>> 4 * cell & 15) - 1;
        }

        void put(int cell, int holder) {
            long others = holders & ~(15L << 4 * cell);
            holders = others | (long) (holder + 1) << 4 * cell;
        }

        void startAnew() {
            holders = 0;
            pasts = 0;
            whichKept = 0;
        }

        void remember(long before) {
            if (pasts == MOST_PASTS) {
                pasts--;
                System.arraycopy(past, 1, past, 0, pasts);
            }
            past[pasts] = before;
            pasts++;
        }

        int stepBack() {
            if (pasts <= 0) {
                return NONE;
            }
            pasts--;
            holders = past[pasts];
            return pasts;
        }

        boolean store(int i) {
            if (i < 0 || i >= MOST_KEPT) {
                return false;
            }
            kept[i] = holders;
            whichKept |= 1 << i;
            return true;
        }

        boolean restore(int i) {
            if (i < 0 || i >= MOST_KEPT || (whichKept >> i & 1) == 0) {
                return false;
            }
            holders = kept[i];
            pasts = 0;
            return true;
        }
    }

    /** What was taken of two cells, and the tastes that fit it. */
    private static final class Choices {
        private static final int MOST_CHOICES = 12;
        private static final int ALL_TASTES = 1000;
        private final int[] taken = new int[MOST_CHOICES];
        private final int[] left = new int[MOST_CHOICES];
        private final int[] tried = new int[TASTES];
        private final int[] leastTastes = new int[TASTES];
        private final int[] asked = new int[MOST_CELLS];
        private final int[] noLess = new int[MOST_CELLS * MOST_CELLS];
        /** Cells (bits) whose worth by the tastes that are tried stands in asked. */
        private int known;
        private int size;

        int tell(int cell, int other) {
            if (size >= MOST_CHOICES) {
                return NONE;
            }
            taken[size] = cell;
            left[size] = other;
            size++;
            return size;
        }

        int countFitting(Rule rule, Loaf loaf, int guest) {
            int fitting = 0;
            int leastSum = 0;
            for (int number = 0; number < ALL_TASTES; number++) {
                if (!fits(number, rule, loaf, guest)) {
                    continue;
                }
                int sum = tried[0] + tried[1] + tried[2];
                if (fitting == 0 || sum < leastSum) {
                    leastSum = sum;
                    System.arraycopy(tried, 0, leastTastes, 0, TASTES);
                }
                fitting++;
            }
            return fitting;
        }

        /** Counts, for each two cells, the fitting tastes by which the first is worth no less. */
        void countPairs(Rule rule, Loaf loaf, int guest) {
            Arrays.fill(noLess, 0);
            for (int number = 0; number < ALL_TASTES; number++) {
                if (!fits(number, rule, loaf, guest)) {
                    continue;
                }
                for (int cell = 0; cell < loaf.cells; cell++) {
                    ask(cell, rule, loaf, guest);
                }
                countThisTime(loaf.cells);
            }
        }

        private void countThisTime(int cells) {
            for (int one = 0; one < cells; one++) {
                for (int other = one + 1; other < cells; other++) {
                    if (asked[one] >= asked[other]) {
                        noLess[one * MOST_CELLS + other]++;
                    }
                    if (asked[other] >= asked[one]) {
                        noLess[other * MOST_CELLS + one]++;
                    }
                }
            }
        }

        int leftAtMost(int one, int other) {
            return Math.max(noLess[one * MOST_CELLS + other], noLess[other * MOST_CELLS + one]);
        }

        /** Tries the tastes that a number of three digits tells. */
        private boolean fits(int number, Rule rule, Loaf loaf, int guest) {
            tried[0] = number / 100;
            tried[1] = number / 10 % 10;
            tried[2] = number % 10;
            known = 0;
            for (int choice = 0; choice < size; choice++) {
                int took = ask(taken[choice], rule, loaf, guest);
                if (took < ask(left[choice], rule, loaf, guest)) {
                    return false;
                }
            }
            return true;
        }

        private int ask(int cell, Rule rule, Loaf loaf, int guest) {
            if ((known >> cell & 1) == 0) {
                asked[cell] = rule.worthOf(loaf, cell, guest, tried, 0);
                known |= 1 << cell;
            }
            return asked[cell];
        }
    }

    /** Members, guests or claims, who each need so much, served one behind another from the first cell on. */
    private static final class Placing {
        private static final int MOST_MEMBERS = 6;
        private static final int PLACES = MOST_CELLS + 1;
        private static final int TOO_FAR = PLACES;
        private static final int CLAIM_SIGNS = 80;
        private final int[] who = new int[MOST_MEMBERS];
        private final long[] times = new long[MOST_MEMBERS];
        private final long[] need = new long[MOST_MEMBERS];
        private final int[] reach = new int[MOST_MEMBERS * PLACES];
        private final int[] least = new int[1 << MOST_MEMBERS];
        private final int[] order = new int[MOST_MEMBERS];
        private int members;
        private int cells;

        void start(int manyCells) {
            members = 0;
            cells = manyCells;
        }

        /** One who is served when what its cells are worth, times so much, is no less than the need. */
        void addMember(int guest, long factor, long needed) {
            if (members < MOST_MEMBERS) {
                who[members] = guest;
                times[members] = factor;
                need[members] = needed;
                members++;
            }
        }

        boolean readClaims(Text text, int guests) {
            text.start(CLAIM_SIGNS);
            for (int claim = 0; claim < MOST_MEMBERS; claim++) {
                int guest = text.takeLetter(guests);
                int amount = guest < 0 ? NONE : text.takeNumber(3);
                if (amount < 0) {
                    return false;
                }
                addMember(guest, 1, amount);
                if (!text.skip(',')) {
                    return text.isFinished();
                }
            }
            return false;
        }

        /** Tells how far each gets from each place, and the least place to which each set can be served. */
        void spread(Worths worths) {
            for (int member = 0; member < members; member++) {
                for (int from = 0; from <= cells; from++) {
                    reach[member * PLACES + from] = shortest(worths, member, from);
                }
            }
            least[0] = 0;
            for (int those = 1; those < 1 << members; those++) {
                int best = TOO_FAR;
                for (int last = 0; last < members; last++) {
                    if ((those >> last & 1) != 0) {
                        best = Math.min(best, reached(last, least[those & ~(1 << last)]));
                    }
                }
                least[those] = best;
            }
        }

        private int shortest(Worths worths, int member, int from) {
            for (int to = from; to <= cells; to++) {
                if (worths.between(who[member], from, to) * times[member] >= need[member]) {
                    return to;
                }
            }
            return TOO_FAR;
        }

        private int reached(int member, int from) {
            return from <= cells ? reach[member * PLACES + from] : TOO_FAR;
        }

        boolean canServe(int those) {
            return least[those] <= cells;
        }

        void tellOrder(int those, Row row) {
            int goal = least[those];
            if (!findOrder(those, 0, 0, goal)) {
                return;
            }
            int from = 0;
            int many = Integer.bitCount(those);
            for (int turn = 0; turn < many; turn++) {
                int to = reached(order[turn], from);
                row.add(who[order[turn]]);
                row.add(to == from ? NONE : to - 1);
                from = to;
            }
        }

        /** The first order that ends at the goal; ends follow from the order, so it gives the least row. */
        private boolean findOrder(int those, int from, int turn, int goal) {
            if (those == 0 || turn >= MOST_MEMBERS) {
                return from == goal;
            }
            for (int member = 0; member < members; member++) {
                if ((those >> member & 1) != 0) {
                    int to = reached(member, from);
                    order[turn] = member;
                    if (to <= goal && findOrder(those & ~(1 << member), to, turn + 1, goal)) {
                        return true;
                    }
                }
            }
            return false;
        }
    }

    /** Ways to part all cells so that nobody would rather have another's slice. */
    private static final class Seating {
        private final int[] starts = new int[MOST_CALM];
        private final int[] stops = new int[MOST_CALM];
        private final int[] owners = new int[MOST_CELLS];
        private final int[] best = new int[MOST_CELLS];
        private int guests;
        private int cells;
        private int found;

        int ways(Worths worths, int manyGuests, Row row) {
            guests = Math.min(manyGuests, MOST_CALM);
            cells = worths.cells;
            found = 0;
            part(worths, 0, 0, 0);
            for (int cell = 0; found > 0 && cell < cells; cell++) {
                row.add(best[cell]);
            }
            return found;
        }

        private void part(Worths worths, int from, int served, int depth) {
            if (from >= cells || depth >= MOST_CALM) {
                if (from >= cells && othersAreCalm(worths, served)) {
                    note();
                }
                return;
            }
            for (int guest = 0; guest < guests; guest++) {
                if ((served >> guest & 1) != 0) {
                    continue;
                }
                starts[guest] = from;
                for (int to = from + 1; to <= cells; to++) {
                    stops[guest] = to;
                    // deeper slices write behind this one alone, so what stands ahead stays
                    owners[to - 1] = guest;
                    if (isCalmWith(worths, guest, served)) {
                        part(worths, to, served | 1 << guest, depth + 1);
                    }
                }
            }
        }

        private boolean isCalmWith(Worths worths, int guest, int served) {
            for (int other = 0; other < guests; other++) {
                if ((served >> other & 1) != 0
                        && (prefers(worths, guest, other) || prefers(worths, other, guest))) {
                    return false;
                }
            }
            return true;
        }

        private boolean prefers(Worths worths, int guest, int other) {
            return worths.between(guest, starts[other], stops[other])
                    > worths.between(guest, starts[guest], stops[guest]);
        }

        /** One who has nothing is calm only if all cells are worth nothing to it. */
        private boolean othersAreCalm(Worths worths, int served) {
            for (int guest = 0; guest < guests; guest++) {
                if ((served >> guest & 1) == 0 && worths.whole(guest) > 0) {
                    return false;
                }
            }
            return true;
        }

        private void note() {
            if (found == 0 || isLess()) {
                System.arraycopy(owners, 0, best, 0, cells);
            }
            found++;
        }

        private boolean isLess() {
            for (int cell = 0; cell < cells; cell++) {
                if (owners[cell] != best[cell]) {
                    return owners[cell] < best[cell];
                }
            }
            return false;
        }
    }

    /** Turns, in which each takes the cell that is worth the most to it by the tastes it told. */
    private static final class Turns {
        private final int[] whose = new int[MOST_TURNS];
        private final int[] told = new int[MOST_GUESTS * MOST_CELLS];
        private final int[] has = new int[MOST_GUESTS];
        private int size;

        boolean read(Text text, int guests) {
            text.start(MOST_TURNS);
            size = 0;
            while (size < MOST_TURNS) {
                int guest = text.takeLetter(guests);
                if (guest < 0) {
                    return size > 0 && text.isFinished();
                }
                whose[size] = guest;
                size++;
            }
            return text.isFinished();
        }

        void startTaking(Worths worths) {
            System.arraycopy(worths.each, 0, told, 0, told.length);
            Arrays.fill(has, 0);
        }

        /** All turns over all cells; what each takes is added to what it has, by its true worths. */
        int takeAll(Worths worths) {
            int gone = 0;
            int many = 0;
            for (int turn = 0; turn < size && many < worths.cells; turn++) {
                int guest = whose[turn];
                int cell = favourite(guest, gone, worths.cells);
                if (cell >= 0) {
                    gone |= 1 << cell;
                    has[guest] += worths.of(guest, cell);
                    many++;
                }
            }
            return many;
        }

        private int favourite(int guest, int gone, int cells) {
            int best = NONE;
            for (int cell = 0; cell < cells; cell++) {
                if ((gone >> cell & 1) == 0
                        && (best < 0 || told[guest * MOST_CELLS + cell] > told[guest * MOST_CELLS + best])) {
                    best = cell;
                }
            }
            return best;
        }
    }
}
