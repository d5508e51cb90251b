import java.util.Arrays;

/**
 * A short wave house: what it promises stands in the project's document; the words in capitals are the document's.
 *
 * Every row that a call needs is made with the object, so that no call makes objects of its own.
 */
public final class WaveHouse {
    public static final int NONE = -1;

    private static final int UNKNOWN = -1000000;

    private static final int ZONES = 24;
    private static final int BELTS = 7;
    private static final int HOURS = 24;
    private static final int DAYS = 3600;
    private static final int SEASONS = 4;
    private static final int BANDS = 6;
    private static final int MAX_POWER = 9;
    private static final int MAX_LISTENERS = 10000;
    private static final int MAX_NUMBER = 99;
    private static final int HEARD = 10;

    private static final int MAX_LANDS = 8;
    private static final int MAX_SITES = 4;
    private static final int MAX_MASTS = 6;
    private static final int MAX_PROGRAMMES = 10;
    private static final int MAX_CELLS = 270;
    private static final int MAX_FACTS = 300;
    private static final int MAX_BYTES = 2000;
    private static final int FEED_BYTES = 20;
    private static final int MAX_TOKENS = 400;
    private static final int MAX_RULES = 20;
    private static final int MAX_NESTED = 6;

    private static final int AROUND = 0;
    private static final int NORTH = 1;
    private static final int SOUTH = 2;

    private static final int SYNTAX = 1;
    private static final int ROOM = 2;
    private static final int WRONG = 5;

    // Kinds of TOKENS; END is the text's end, NO_TOKEN also stands for WORDS that no text has.
    private static final int END = 0;
    private static final int NO_TOKEN = 1;
    private static final int INT = 2;
    private static final int SEMICOLON = 3;
    private static final int PLUS = 4;
    private static final int MINUS = 5;
    private static final int TIMES = 6;
    private static final int EQUAL = 7;
    private static final int UNEQUAL = 8;
    private static final int LESS = 9;
    private static final int LESS_OR_EQUAL = 10;
    private static final int OPEN = 11;
    private static final int CLOSE = 12;
    private static final int WE = 13;
    private static final int THEY = 14;
    private static final int YIELD = 15;
    private static final int FROM = 16;
    private static final int UNTIL = 17;
    private static final int IF = 18;
    private static final int AND = 19;
    private static final int FIRST_VAR = 20;
    private static final int VARS = 8;

    private final Spots lands = new Spots(MAX_LANDS);
    private final Spots sites = new Spots(MAX_SITES);
    private final Masts masts = new Masts();
    private final Programmes programmes = new Programmes();
    private final Sheets sheets = new Sheets();
    private final Facts facts = new Facts();
    private final Corrections corrections = new Corrections();
    private final byte[] tape = new byte[MAX_BYTES];
    private final Parser parser = new Parser();
    private final int[] vars = new int[VARS];
    private final Pairing pairing = new Pairing();
    private final Plan plan = new Plan();
    private Treaty treaty = new Treaty();
    private int tapeLength = 0;
    private int today = 0;

    public WaveHouse() {
    }

    public int feed(int a, int b, int c, int d, int e) {
        if (tapeLength > MAX_BYTES - FEED_BYTES) {
            return NONE;
        }
        append(a);
        append(b);
        append(c);
        append(d);
        append(e);
        return tapeLength;
    }

    public int back(int n) {
        if (n < 0 || n > tapeLength) {
            return NONE;
        }
        tapeLength -= n;
        return tapeLength;
    }

    public int read() {
        int fault = parser.parse(tape, tapeLength);
        tapeLength = 0;
        if (fault == 0) {
            treaty = parser.swapDraft(treaty);
        }
        return fault;
    }

    public int place() {
        return parser.faultPlace;
    }

    public int ground(int zone, int belt, int listeners) {
        if (zone < 0 || zone >= ZONES || belt < 0 || belt >= BELTS || listeners < 0 || listeners > MAX_LISTENERS) {
            return NONE;
        }
        return listeners == 0 ? sites.add(zone, belt, 0) : lands.add(zone, belt, listeners);
    }

    public int mast(int site, int power) {
        if (!sites.has(site) || power < 1 || power > MAX_POWER) {
            return NONE;
        }
        return masts.add(site, power);
    }

    public int programme(int land, int from, int until) {
        if (!lands.has(land) || !isSpan(from, until)) {
            return NONE;
        }
        return programmes.add(land, from, until);
    }

    public boolean sheet(int season, int n) {
        if (season < 0 || season >= SEASONS || n < NONE || n > MAX_CELLS) {
            return false;
        }
        sheets.renew(season, n);
        return true;
    }

    public boolean cell(int season, int i, int v) {
        if (season < 0 || season >= SEASONS || !sheets.has(season, i) || !isNumber(v)) {
            return false;
        }
        sheets.put(season, i, v);
        return true;
    }

    public boolean clock(int d) {
        if (d < today || d >= DAYS) {
            return false;
        }
        today = d;
        return true;
    }

    public int report(int site, int land, int band, int hour, int heard) {
        if (!isPath(site, land, band) || !isHour(hour) || !isNumber(heard)) {
            return NONE;
        }
        return facts.addReport(site, land, band, hour, heard, today);
    }

    public int notice(int band, int from, int until, int land, int day) {
        if (!isBand(band) || !isSpan(from, until) || !lands.has(land) || !isDay(day)) {
            return NONE;
        }
        return facts.addNotice(band, from, until, land, day);
    }

    public int way(int s, int l, int what) {
        if (!sites.has(s) || !lands.has(l)) {
            return NONE;
        }
        switch (what) {
            case 0:
                return sites.lengthTo(s, lands, l);
            case 1:
                return sites.farTo(s, lands, l);
            case 2:
                return sites.aimTo(s, lands, l);
            case 3:
                return sites.kindTo(s, lands, l);
            default:
                return NONE;
        }
    }

    public int sun(boolean site, int k, int day, int hour) {
        Spots spots = site ? sites : lands;
        if (!spots.has(k) || !isDay(day) || !isHour(hour)) {
            return NONE;
        }
        return spots.sunAt(k, day, hour);
    }

    public int correction(int site, int land, int band, int n) {
        if (!isPath(site, land, band) || !facts.canKnow(n)) {
            return UNKNOWN;
        }
        learn(n);
        return corrections.mean(site, land, band);
    }

    public int strength(int m, int band, int land, int day, int hour, int n) {
        if (!isSending(m, band, land, day, hour) || !facts.canKnow(n)) {
            return UNKNOWN;
        }
        learn(n);
        return strengthBy(m, band, land, day, firstCell(masts.siteOf(m), land, day, hour));
    }

    public int yields(int m, int band, int land, int day, int hour, int n) {
        if (!isSending(m, band, land, day, hour) || !facts.canKnow(n)) {
            return NONE;
        }
        return firstYield(m, band, land, day, hour, n);
    }

    public int rule(int m, int band, int land, int day, int hour, int f) {
        if (!isSending(m, band, land, day, hour) || !facts.isNotice(f) || !clashes(f, band, land, day, hour)) {
            return NONE;
        }
        return decidingRule(m, band, land, day, hour, f);
    }

    public int schedule(int day, int n) {
        if (!isDay(day) || !facts.canKnow(n)) {
            return NONE;
        }
        learn(n);
        plan.renew(programmes.size);
        int total = 0;
        for (int hour = 0; hour < HOURS; hour++) {
            offerAll(day, hour, n);
            pairing.solve(masts.size);
            settle(hour);
            total += plan.listenersIn(hour);
        }
        return total;
    }

    public int slot(int hour, int p, int what) {
        if (!isHour(hour) || !plan.hasProgramme(p)) {
            return NONE;
        }
        switch (what) {
            case 0:
                return plan.mastIn(hour, p);
            case 1:
                return plan.bandIn(hour, p);
            case 2:
                return plan.aimIn(hour, p);
            case 3:
                return plan.strengthIn(hour, p);
            default:
                return NONE;
        }
    }

    public int listeners(int hour) {
        return plan.made && isHour(hour) ? plan.listenersIn(hour) : NONE;
    }

    public int count(int what) {
        switch (what) {
            case 0:
                return lands.size;
            case 1:
                return sites.size;
            case 2:
                return masts.size;
            case 3:
                return programmes.size;
            case 4:
                return facts.size;
            case 5:
                return treaty.size;
            case 6:
                return today;
            case 7:
                return tapeLength;
            default:
                return NONE;
        }
    }

    private void append(int four) {
        for (int shift = 24; shift >= 0 && tapeLength < MAX_BYTES; shift -= 8) {
            tape[tapeLength] = (byte) (four >> shift);
            tapeLength++;
        }
    }

    private static boolean isDay(int day) {
        return day >= 0 && day < DAYS;
    }

    private static boolean isHour(int hour) {
        return hour >= 0 && hour < HOURS;
    }

    private static boolean isBand(int band) {
        return band >= 0 && band < BANDS;
    }

    private static boolean isNumber(int v) {
        return v >= -MAX_NUMBER && v <= MAX_NUMBER;
    }

    private static boolean isSpan(int from, int until) {
        return from >= 0 && from < until && until <= HOURS;
    }

    private boolean isPath(int site, int land, int band) {
        return sites.has(site) && lands.has(land) && isBand(band);
    }

    private boolean isSending(int m, int band, int land, int day, int hour) {
        return masts.has(m) && isBand(band) && lands.has(land) && isDay(day) && isHour(hour);
    }

    private static int seasonOf(int day) {
        return day / 90 % SEASONS;
    }

    /** The first of the cells, BAND by BAND, for what comes from a SITE to a LAND. */
    private int firstCell(int site, int land, int day, int hour) {
        int suns = sites.sunAt(site, day, hour) * 3 + lands.sunAt(land, day, hour);
        return (suns * 5 + sites.farTo(site, lands, land)) * BANDS;
    }

    /** Fills the CORRECTIONS anew: SHEETS may have changed since the last time. */
    private void learn(int n) {
        corrections.renew();
        for (int f = 0; f < n; f++) {
            if (!facts.isNotice(f)) {
                learnReport(f);
            }
        }
    }

    private void learnReport(int f) {
        int site = facts.siteOf(f);
        int land = facts.landOf(f);
        int band = facts.bandOf(f);
        int day = facts.dayOf(f);
        int number = sheets.numberAt(seasonOf(day), firstCell(site, land, day, facts.fromOf(f)) + band);
        if (number != UNKNOWN) {
            corrections.add(site, land, band, facts.heardOf(f) - number);
        }
    }

    private int strengthBy(int m, int band, int land, int day, int firstCell) {
        int number = sheets.numberAt(seasonOf(day), firstCell + band);
        if (number == UNKNOWN) {
            return UNKNOWN;
        }
        return number + corrections.mean(masts.siteOf(m), land, band) + masts.powerOf(m);
    }

    private boolean clashes(int f, int band, int land, int day, int hour) {
        return facts.holdsAt(f, band, day, hour) && lands.farTo(land, lands, facts.landOf(f)) == 0;
    }

    private int decidingRule(int m, int band, int land, int day, int hour, int f) {
        vars[0] = band;
        vars[1] = hour;
        vars[2] = day;
        vars[3] = land;
        vars[4] = facts.landOf(f);
        vars[5] = masts.powerOf(m);
        vars[6] = facts.dayOf(f);
        vars[7] = f;
        return treaty.firstHolding(day, vars);
    }

    private int firstYield(int m, int band, int land, int day, int hour, int n) {
        for (int i = 0; i < facts.noticesOn(band); i++) {
            int f = facts.noticeOn(band, i);
            if (f >= n) {
                return NONE;
            }
            if (clashes(f, band, land, day, hour) && treaty.weYieldBy(decidingRule(m, band, land, day, hour, f))) {
                return f;
            }
        }
        return NONE;
    }

    private void offerAll(int day, int hour, int n) {
        pairing.renew();
        for (int p = 0; p < programmes.size; p++) {
            for (int m = 0; m < masts.size && programmes.isOn(p, hour); m++) {
                if (isTurned(m, programmes.landOf(p), hour)) {
                    offer(p, m, day, hour, n);
                }
            }
        }
    }

    private boolean isTurned(int m, int land, int hour) {
        int aimAhead = plan.aimOfMast(hour - 1, m);
        return aimAhead == NONE || aimAhead == sites.aimTo(masts.siteOf(m), lands, land);
    }

    /** Only what is HEARD is looked at: if the best BAND is not, the MAST does not fit by any. */
    private void offer(int p, int m, int day, int hour, int n) {
        int land = programmes.landOf(p);
        int firstCell = firstCell(masts.siteOf(m), land, day, hour);
        int best = HEARD - 1;
        int bestBand = NONE;
        for (int band = 0; band < BANDS; band++) {
            int strength = strengthBy(m, band, land, day, firstCell);
            if (strength > best && firstYield(m, band, land, day, hour, n) == NONE) {
                best = strength;
                bestBand = band;
            }
        }
        if (bestBand != NONE) {
            pairing.offer(p, m, bestBand, best, lands.listenersOf(land));
        }
    }

    private void settle(int hour) {
        for (int p = 0; p < programmes.size; p++) {
            int m = pairing.mastFor(p);
            if (m != NONE) {
                int land = programmes.landOf(p);
                int aim = sites.aimTo(masts.siteOf(m), lands, land);
                plan.put(hour, p, m, pairing.bandOf(p, m), aim, pairing.strengthOf(p, m));
                plan.addListeners(hour, lands.listenersOf(land));
            }
        }
    }

    /** LANDS or SITES, and the WAYS from them. */
    private static final class Spots {
        /** By (BELTS to the south + 1) * 3 + (ZONES to the east + 1), each as a sign. */
        private static final int[] AIMS = {7, 0, 1, 6, 0, 2, 5, 4, 3};

        private final int[] zones;
        private final int[] belts;
        private final int[] listeners;
        int size = 0;

        Spots(int room) {
            zones = new int[room];
            belts = new int[room];
            listeners = new int[room];
        }

        int add(int zone, int belt, int heads) {
            if (size >= zones.length) {
                return NONE;
            }
            zones[size] = zone;
            belts[size] = belt;
            listeners[size] = heads;
            size++;
            return size - 1;
        }

        boolean has(int k) {
            return k >= 0 && k < size;
        }

        int listenersOf(int k) {
            return listeners[k];
        }

        int sunAt(int k, int day, int hour) {
            int local = (hour + zones[k]) % HOURS;
            int season = seasonOf(day);
            boolean north = belts[k] <= 2;
            boolean south = belts[k] >= 4;
            if (season == 1 && north || season == 3 && south) {
                return light(local, 5, 18, 1);
            }
            if (season == 1 && south || season == 3 && north) {
                return light(local, 8, 15, 1);
            }
            return light(local, 7, 16, 2);
        }

        private static int light(int local, int first, int last, int dusk) {
            if (local >= first && local <= last) {
                return 2;
            }
            return local >= first - dusk && local <= last + dusk ? 1 : 0;
        }

        private int eastward(int k, Spots others, int j) {
            return (others.zones[j] - zones[k] + ZONES) % ZONES;
        }

        /** The WAY as length * 4 + kind: so the least one is the shortest, and of equal ones the first kind. */
        private int shortest(int k, Spots others, int j) {
            int on = eastward(k, others, j);
            int dx = Math.min(on, ZONES - on);
            int around = dx + Math.abs(others.belts[j] - belts[k]);
            int overPole = 1 + ZONES / 2 - dx;
            int both = belts[k] + others.belts[j];
            int north = both + overPole;
            int south = 2 * (BELTS - 1) - both + overPole;
            return Math.min(around * 4 + AROUND, Math.min(north * 4 + NORTH, south * 4 + SOUTH));
        }

        int lengthTo(int k, Spots others, int j) {
            return shortest(k, others, j) / 4;
        }

        int kindTo(int k, Spots others, int j) {
            return shortest(k, others, j) % 4;
        }

        int farTo(int k, Spots others, int j) {
            return Math.min(shortest(k, others, j) / 4 / 5, 4);
        }

        int aimTo(int k, Spots others, int j) {
            int kind = kindTo(k, others, j);
            if (kind == NORTH) {
                return 0;
            }
            if (kind == SOUTH) {
                return 4;
            }
            int on = eastward(k, others, j);
            int east = on == 0 ? 0 : on <= ZONES / 2 ? 1 : -1;
            int south = Integer.compare(others.belts[j], belts[k]);
            return AIMS[(south + 1) * 3 + east + 1];
        }
    }

    private static final class Masts {
        private final int[] sites = new int[MAX_MASTS];
        private final int[] powers = new int[MAX_MASTS];
        int size = 0;

        int add(int site, int power) {
            if (size >= MAX_MASTS) {
                return NONE;
            }
            sites[size] = site;
            powers[size] = power;
            size++;
            return size - 1;
        }

        boolean has(int m) {
            return m >= 0 && m < size;
        }

        int siteOf(int m) {
            return sites[m];
        }

        int powerOf(int m) {
            return powers[m];
        }
    }

    private static final class Programmes {
        private final int[] lands = new int[MAX_PROGRAMMES];
        private final int[] from = new int[MAX_PROGRAMMES];
        private final int[] until = new int[MAX_PROGRAMMES];
        int size = 0;

        int add(int land, int first, int behind) {
            if (size >= MAX_PROGRAMMES) {
                return NONE;
            }
            lands[size] = land;
            from[size] = first;
            until[size] = behind;
            size++;
            return size - 1;
        }

        int landOf(int p) {
            return lands[p];
        }

        boolean isOn(int p, int hour) {
            return hour >= from[p] && hour < until[p];
        }
    }

    private static final class Sheets {
        private final short[] numbers = new short[SEASONS * MAX_CELLS];
        /** How many cells each SHEET has; a MISSING one has none, as an empty one. */
        private final int[] sizes = new int[SEASONS];

        void renew(int season, int n) {
            sizes[season] = Math.max(n, 0);
            for (int i = 0; i < sizes[season]; i++) {
                numbers[season * MAX_CELLS + i] = 0;
            }
        }

        boolean has(int season, int i) {
            return i >= 0 && i < sizes[season];
        }

        void put(int season, int i, int v) {
            numbers[season * MAX_CELLS + i] = (short) v;
        }

        int numberAt(int season, int i) {
            return has(season, i) ? numbers[season * MAX_CELLS + i] : UNKNOWN;
        }
    }

    private static final class Facts {
        /** NONE for a NOTICE. */
        private final int[] sites = new int[MAX_FACTS];
        private final int[] lands = new int[MAX_FACTS];
        private final int[] bands = new int[MAX_FACTS];
        /** A REPORT's HOUR; the first of a NOTICE. */
        private final int[] from = new int[MAX_FACTS];
        private final int[] until = new int[MAX_FACTS];
        /** The DAY on which a REPORT was told; from which on a NOTICE holds. */
        private final int[] days = new int[MAX_FACTS];
        private final int[] heard = new int[MAX_FACTS];
        /** The NOTICES of each BAND by themselves, so that a SCHEDULE need not go through all FACTS. */
        private final int[] notices = new int[BANDS * MAX_FACTS];
        private final int[] noticeCounts = new int[BANDS];
        int size = 0;

        int addReport(int site, int land, int band, int hour, int told, int day) {
            if (size >= MAX_FACTS) {
                return NONE;
            }
            sites[size] = site;
            heard[size] = told;
            return add(band, hour, hour + 1, land, day);
        }

        int addNotice(int band, int first, int behind, int land, int day) {
            if (size >= MAX_FACTS) {
                return NONE;
            }
            sites[size] = NONE;
            notices[band * MAX_FACTS + noticeCounts[band]] = size;
            noticeCounts[band]++;
            return add(band, first, behind, land, day);
        }

        private int add(int band, int first, int behind, int land, int day) {
            bands[size] = band;
            from[size] = first;
            until[size] = behind;
            lands[size] = land;
            days[size] = day;
            size++;
            return size - 1;
        }

        boolean canKnow(int n) {
            return n >= 0 && n <= size;
        }

        boolean isNotice(int f) {
            return f >= 0 && f < size && sites[f] == NONE;
        }

        boolean holdsAt(int f, int band, int day, int hour) {
            return bands[f] == band && day >= days[f] && hour >= from[f] && hour < until[f];
        }

        int noticesOn(int band) {
            return noticeCounts[band];
        }

        int noticeOn(int band, int i) {
            return notices[band * MAX_FACTS + i];
        }

        int siteOf(int f) {
            return sites[f];
        }

        int landOf(int f) {
            return lands[f];
        }

        int bandOf(int f) {
            return bands[f];
        }

        int fromOf(int f) {
            return from[f];
        }

        int dayOf(int f) {
            return days[f];
        }

        int heardOf(int f) {
            return heard[f];
        }
    }

    private static final class Corrections {
        private final int[] sums = new int[MAX_SITES * MAX_LANDS * BANDS];
        private final int[] counts = new int[MAX_SITES * MAX_LANDS * BANDS];

        void renew() {
            Arrays.fill(sums, 0);
            Arrays.fill(counts, 0);
        }

        private static int path(int site, int land, int band) {
            return (site * MAX_LANDS + land) * BANDS + band;
        }

        void add(int site, int land, int band, int difference) {
            int path = path(site, land, band);
            sums[path] += difference;
            counts[path]++;
        }

        int mean(int site, int land, int band) {
            int path = path(site, land, band);
            return counts[path] == 0 ? 0 : Math.floorDiv(sums[path], counts[path]);
        }
    }

    /** The RULES of one text; their RELS are steps that work on a stack, each UNIT ahead of its sign. */
    private static final class Treaty {
        /** Two UNITS may wait at each level of brackets, and one side of a REL. */
        private static final int STACK = 2 * (MAX_NESTED + 1) + 2;

        private final boolean[] theyYield = new boolean[MAX_RULES];
        private final int[] from = new int[MAX_RULES];
        private final int[] until = new int[MAX_RULES];
        private final int[] ends = new int[MAX_RULES];
        private final int[] steps = new int[MAX_TOKENS];
        private final int[] values = new int[MAX_TOKENS];
        private final int[] stack = new int[STACK];
        private int stepCount = 0;
        int size = 0;

        void renew() {
            size = 0;
            stepCount = 0;
        }

        void addStep(int step, int value) {
            if (stepCount < MAX_TOKENS) {
                steps[stepCount] = step;
                values[stepCount] = value;
                stepCount++;
            }
        }

        /** The steps since the RULE ahead are its own. */
        void addRule(boolean they, int first, int behind) {
            if (size < MAX_RULES) {
                theyYield[size] = they;
                from[size] = first;
                until[size] = behind;
                ends[size] = stepCount;
                size++;
            }
        }

        boolean weYieldBy(int r) {
            return r < 0 || r >= size || !theyYield[r];
        }

        int firstHolding(int day, int[] vars) {
            for (int r = 0; r < size; r++) {
                if (day >= from[r] && day < until[r] && relsHold(r, vars)) {
                    return r;
                }
            }
            return NONE;
        }

        private boolean relsHold(int r, int[] vars) {
            int top = 0;
            for (int i = r == 0 ? 0 : ends[r - 1]; i < ends[r]; i++) {
                int step = steps[i];
                if (step == INT || step >= FIRST_VAR) {
                    if (top >= STACK) {
                        return false;
                    }
                    stack[top] = step == INT ? values[i] : varOf(step, vars);
                    top++;
                } else {
                    if (top < 2) {
                        return false;
                    }
                    top--;
                    int b = stack[top];
                    int a = stack[top - 1];
                    if (step < EQUAL) {
                        stack[top - 1] = reckon(step, a, b);
                    } else {
                        top--;
                        if (!compares(step, a, b)) {
                            return false;
                        }
                    }
                }
            }
            return true;
        }

        private static int varOf(int step, int[] vars) {
            int k = step - FIRST_VAR;
            return k >= 0 && k < vars.length ? vars[k] : 0;
        }

        private static int reckon(int sign, int a, int b) {
            if (sign == PLUS) {
                return a + b;
            }
            return sign == MINUS ? a - b : a * b;
        }

        private static boolean compares(int sign, int a, int b) {
            switch (sign) {
                case EQUAL:
                    return a == b;
                case UNEQUAL:
                    return a != b;
                case LESS:
                    return a < b;
                default:
                    return a <= b;
            }
        }
    }

    /** Goes through a text TOKEN by TOKEN. */
    private static final class Scanner {
        private static final int MAX_LETTERS = 8;
        private static final int MAX_DIGITS = 4;
        /** Eight signs each, in the order of their kinds from WE on. */
        private static final String WORDS =
            "we      they    yield   from    until   if      and     band    hour    day     land    aim     power   since   notice  ";

        private byte[] text = new byte[0];
        private int length = 0;
        private int next = 0;
        /** The TOKEN at hand: its kind, the place of its first byte, and an INT's number. */
        int kind = END;
        int place = 0;
        int value = 0;

        void start(byte[] bytes, int count) {
            text = bytes;
            length = Math.min(count, bytes.length);
            next = 0;
        }

        void advance() {
            next = behindBlanks();
            place = next;
            value = 0;
            if (next >= length) {
                kind = END;
            } else if (isLetter(text[next])) {
                scanWord();
            } else if (isDigit(text[next])) {
                scanInt();
            } else {
                scanSign();
            }
        }

        private int behindBlanks() {
            int i = next;
            while (i < length && isBlank(text[i])) {
                i++;
            }
            return i;
        }

        private static boolean isBlank(int b) {
            return b == 9 || b == 10 || b == 13 || b == 32;
        }

        private static boolean isLetter(int b) {
            return b >= 'a' && b <= 'z';
        }

        private static boolean isDigit(int b) {
            return b >= '0' && b <= '9';
        }

        private void scanWord() {
            while (next < length && isLetter(text[next])) {
                next++;
            }
            kind = NO_TOKEN;
            if (next - place <= MAX_LETTERS) {
                for (int k = 0; k * MAX_LETTERS < WORDS.length() && kind == NO_TOKEN; k++) {
                    kind = isWord(k) ? WE + k : NO_TOKEN;
                }
            }
        }

        private boolean isWord(int k) {
            for (int i = 0; i < MAX_LETTERS; i++) {
                int letter = place + i < next ? text[place + i] : ' ';
                if (WORDS.charAt(k * MAX_LETTERS + i) != letter) {
                    return false;
                }
            }
            return true;
        }

        private void scanInt() {
            while (next < length && isDigit(text[next])) {
                value = next - place < MAX_DIGITS ? value * 10 + text[next] - '0' : 0;
                next++;
            }
            kind = next - place <= MAX_DIGITS ? INT : NO_TOKEN;
        }

        private void scanSign() {
            boolean equalBehind = next + 1 < length && text[next + 1] == '=';
            kind = signOf(text[next], equalBehind);
            boolean isLong = kind == EQUAL || kind == UNEQUAL || kind == LESS_OR_EQUAL;
            next += isLong ? 2 : 1;
        }

        private static int signOf(int b, boolean equalBehind) {
            switch (b) {
                case ';':
                    return SEMICOLON;
                case '+':
                    return PLUS;
                case '-':
                    return MINUS;
                case '*':
                    return TIMES;
                case '(':
                    return OPEN;
                case ')':
                    return CLOSE;
                case '<':
                    return equalBehind ? LESS_OR_EQUAL : LESS;
                case '=':
                    return equalBehind ? EQUAL : NO_TOKEN;
                case '!':
                    return equalBehind ? UNEQUAL : NO_TOKEN;
                default:
                    return NO_TOKEN;
            }
        }
    }

    /** Reads a text into a draft: the TOKENS taken so far are a state, which tells with which ones a text goes on. */
    private static final class Parser {
        private static final int AT_RULE = 0;
        private static final int AT_YIELD = 1;
        private static final int BEHIND_YIELD = 2;
        private static final int AT_FROM = 3;
        private static final int BEHIND_FROM = 4;
        private static final int AT_UNTIL = 5;
        private static final int BEHIND_UNTIL = 6;
        private static final int AT_UNIT = 7;
        private static final int BEHIND_UNIT = 8;

        private static final int FOR_EVER = 10000;
        /** At each level of brackets a sum, a product and the bracket may wait; the sign of a REL below them. */
        private static final int WAITING = 3 * (MAX_NESTED + 1) + 1;

        private final Scanner scanner = new Scanner();
        /** SIGNS whose second side is not at its end. */
        private final int[] waiting = new int[WAITING];
        private Treaty draft = new Treaty();
        private int waitingCount = 0;
        private int state = AT_RULE;
        private int nested = 0;
        private boolean related = false;
        private boolean they = false;
        private int first = 0;
        private int behind = FOR_EVER;
        private int wrongPlace = NONE;
        int faultPlace = NONE;

        /** The number of the text's FAULT; 0: it has none, and swapDraft() hands it out. */
        int parse(byte[] text, int length) {
            draft.renew();
            scanner.start(text, length);
            state = AT_RULE;
            waitingCount = 0;
            wrongPlace = NONE;
            int fault = 0;
            boolean goesOn = true;
            for (int taken = 0; taken <= MAX_TOKENS && goesOn; taken++) {
                scanner.advance();
                fault = faultOf(scanner.kind, taken);
                goesOn = fault == 0 && scanner.kind != END;
                if (goesOn) {
                    take(scanner.kind);
                }
            }
            faultPlace = fault != 0 ? scanner.place : wrongPlace;
            return fault == 0 && wrongPlace != NONE ? WRONG : fault;
        }

        Treaty swapDraft(Treaty former) {
            Treaty read = draft;
            draft = former;
            return read;
        }

        private int faultOf(int kind, int taken) {
            if (kind == END) {
                return state == AT_RULE ? 0 : SYNTAX;
            }
            if (stateBehind(kind) == NONE) {
                return SYNTAX;
            }
            boolean tooManyRules = state == AT_RULE && draft.size >= MAX_RULES;
            boolean tooDeep = kind == OPEN && nested >= MAX_NESTED;
            return taken >= MAX_TOKENS || tooManyRules || tooDeep ? ROOM : 0;
        }

        /** NONE: no text goes on with a TOKEN of this kind. */
        private int stateBehind(int kind) {
            switch (state) {
                case AT_RULE:
                    return kind == WE || kind == THEY ? AT_YIELD : NONE;
                case AT_YIELD:
                    return kind == YIELD ? BEHIND_YIELD : NONE;
                case AT_FROM:
                    return kind == INT ? BEHIND_FROM : NONE;
                case AT_UNTIL:
                    return kind == INT ? BEHIND_UNTIL : NONE;
                case AT_UNIT:
                    return kind == OPEN ? AT_UNIT : kind == INT || kind >= FIRST_VAR ? BEHIND_UNIT : NONE;
                case BEHIND_UNIT:
                    return stateBehindUnit(kind);
                default:
                    return stateBehindDays(kind);
            }
        }

        private int stateBehindDays(int kind) {
            if (kind == FROM && state == BEHIND_YIELD) {
                return AT_FROM;
            }
            if (kind == UNTIL && state != BEHIND_UNTIL) {
                return AT_UNTIL;
            }
            if (kind == IF) {
                return AT_UNIT;
            }
            return kind == SEMICOLON ? AT_RULE : NONE;
        }

        private int stateBehindUnit(int kind) {
            if (kind == PLUS || kind == MINUS || kind == TIMES) {
                return AT_UNIT;
            }
            if (nested > 0) {
                return kind == CLOSE ? BEHIND_UNIT : NONE;
            }
            if (!related) {
                return isRelation(kind) ? AT_UNIT : NONE;
            }
            if (kind == AND) {
                return AT_UNIT;
            }
            return kind == SEMICOLON ? AT_RULE : NONE;
        }

        private static boolean isRelation(int kind) {
            return kind >= EQUAL && kind <= LESS_OR_EQUAL;
        }

        private void take(int kind) {
            int from = state;
            state = stateBehind(kind);
            if (from == AT_RULE) {
                startRule(kind);
            } else if (from == AT_FROM) {
                first = scanner.value;
            } else if (from == AT_UNTIL) {
                takeUntil();
            } else if (from == AT_UNIT) {
                takeUnit(kind);
            } else if (from == BEHIND_UNIT) {
                takeSign(kind);
            }
            if (kind == SEMICOLON) {
                draft.addRule(they, first, behind);
            }
        }

        private void startRule(int kind) {
            they = kind == THEY;
            first = 0;
            behind = FOR_EVER;
            nested = 0;
            related = false;
        }

        private void takeUntil() {
            behind = scanner.value;
            if (behind <= first && wrongPlace == NONE) {
                wrongPlace = scanner.place;
            }
        }

        private void takeUnit(int kind) {
            if (kind == OPEN) {
                nested++;
                putOff(OPEN);
            } else {
                draft.addStep(kind, scanner.value);
            }
        }

        private void takeSign(int kind) {
            release(kind);
            if (kind == CLOSE) {
                nested--;
                waitingCount = Math.max(waitingCount - 1, 0);
            } else if (kind == AND) {
                related = false;
            } else if (kind != SEMICOLON) {
                related = related || isRelation(kind);
                putOff(kind);
            }
        }

        private void putOff(int kind) {
            if (waitingCount < WAITING) {
                waiting[waitingCount] = kind;
                waitingCount++;
            }
        }

        /** What binds as close as the SIGN at hand, or closer, is at its end; a bracket keeps back what is ahead of it. */
        private void release(int kind) {
            int least = Math.max(rank(kind), 1);
            for (int i = waitingCount - 1; i >= 0 && rank(waiting[i]) >= least; i--) {
                draft.addStep(waiting[i], 0);
                waitingCount = i;
            }
        }

        private static int rank(int kind) {
            if (kind == TIMES) {
                return 3;
            }
            if (kind == PLUS || kind == MINUS) {
                return 2;
            }
            return isRelation(kind) ? 1 : 0;
        }
    }

    /** Which MAST each PROGRAMME gets in one HOUR. */
    private static final class Pairing {
        /** Above all STRENGTHS together, so that one listener more outweighs them. */
        private static final int LISTENER = 4096;

        /** By PROGRAMME * MAX_MASTS + MAST; a gain of 0: it does not FIT. */
        private final int[] gains = new int[MAX_PROGRAMMES * MAX_MASTS];
        private final int[] bands = new int[MAX_PROGRAMMES * MAX_MASTS];
        private final int[] strengths = new int[MAX_PROGRAMMES * MAX_MASTS];
        private final int[] mastFor = new int[MAX_PROGRAMMES];
        /** The PROGRAMMES that some MAST FITS, in their order: the others need not be weighed. */
        private final int[] asking = new int[MAX_PROGRAMMES];
        private int askingCount = 0;
        /** By place in asking and set of MASTS in use: what that PROGRAMME and those behind it gain at most. */
        private final int[] most = new int[(MAX_PROGRAMMES + 1) << MAX_MASTS];

        void renew() {
            Arrays.fill(gains, 0);
            Arrays.fill(mastFor, NONE);
            askingCount = 0;
        }

        /** Offers come PROGRAMME by PROGRAMME. */
        void offer(int p, int m, int band, int strength, int listeners) {
            int i = p * MAX_MASTS + m;
            gains[i] = listeners * LISTENER + strength;
            bands[i] = band;
            strengths[i] = strength;
            boolean asked = askingCount > 0 && asking[askingCount - 1] == p;
            if (!asked && askingCount < MAX_PROGRAMMES) {
                asking[askingCount] = p;
                askingCount++;
            }
        }

        void solve(int masts) {
            int sets = 1 << masts;
            for (int used = 0; used < sets; used++) {
                most[(askingCount << MAX_MASTS) + used] = 0;
            }
            for (int a = askingCount - 1; a >= 0; a--) {
                for (int used = 0; used < sets; used++) {
                    most[(a << MAX_MASTS) + used] = bestFrom(a, used, masts);
                }
            }
            choose(masts);
        }

        private int bestFrom(int a, int used, int masts) {
            int best = most[((a + 1) << MAX_MASTS) + used];
            for (int m = 0; m < masts; m++) {
                best = Math.max(best, gainBy(a, used, m));
            }
            return best;
        }

        /** What the PROGRAMME with MAST m and those behind it gain at most; NONE if it can't have it. */
        private int gainBy(int a, int used, int m) {
            int gain = gains[asking[a] * MAX_MASTS + m];
            if (gain == 0 || (used >> m & 1) == 1) {
                return NONE;
            }
            return gain + most[((a + 1) << MAX_MASTS) + (used | 1 << m)];
        }

        /** The least MAST by which nothing is lost, PROGRAMME by PROGRAMME. */
        private void choose(int masts) {
            int used = 0;
            for (int a = 0; a < askingCount; a++) {
                int best = most[(a << MAX_MASTS) + used];
                int chosen = NONE;
                for (int m = 0; m < masts && chosen == NONE; m++) {
                    chosen = gainBy(a, used, m) == best ? m : NONE;
                }
                if (chosen != NONE) {
                    mastFor[asking[a]] = chosen;
                    used |= 1 << chosen;
                }
            }
        }

        int mastFor(int p) {
            return mastFor[p];
        }

        int bandOf(int p, int m) {
            return bands[p * MAX_MASTS + m];
        }

        int strengthOf(int p, int m) {
            return strengths[p * MAX_MASTS + m];
        }
    }

    /** THE SCHEDULE at hand, as it was when it was made. */
    private static final class Plan {
        /** By HOUR * MAX_PROGRAMMES + PROGRAMME. */
        private final int[] masts = new int[HOURS * MAX_PROGRAMMES];
        private final int[] bands = new int[HOURS * MAX_PROGRAMMES];
        private final int[] aims = new int[HOURS * MAX_PROGRAMMES];
        private final int[] strengths = new int[HOURS * MAX_PROGRAMMES];
        private final int[] mastAims = new int[HOURS * MAX_MASTS];
        private final int[] listeners = new int[HOURS];
        /** How many PROGRAMMES were there when it was made: later ones are none of its own. */
        private int programmes = 0;
        boolean made = false;

        void renew(int programmesNow) {
            made = true;
            programmes = programmesNow;
            Arrays.fill(masts, NONE);
            Arrays.fill(bands, NONE);
            Arrays.fill(aims, NONE);
            Arrays.fill(strengths, 0);
            Arrays.fill(mastAims, NONE);
            Arrays.fill(listeners, 0);
        }

        boolean hasProgramme(int p) {
            return p >= 0 && p < programmes;
        }

        void put(int hour, int p, int m, int band, int aim, int strength) {
            int i = hour * MAX_PROGRAMMES + p;
            masts[i] = m;
            bands[i] = band;
            aims[i] = aim;
            strengths[i] = strength;
            mastAims[hour * MAX_MASTS + m] = aim;
        }

        void addListeners(int hour, int heads) {
            listeners[hour] += heads;
        }

        int listenersIn(int hour) {
            return listeners[hour];
        }

        /** NONE if the MAST did nothing then, as ahead of HOUR 0. */
        int aimOfMast(int hour, int m) {
            return hour < 0 ? NONE : mastAims[hour * MAX_MASTS + m];
        }

        int mastIn(int hour, int p) {
            return masts[hour * MAX_PROGRAMMES + p];
        }

        int bandIn(int hour, int p) {
            return bands[hour * MAX_PROGRAMMES + p];
        }

        int aimIn(int hour, int p) {
            return aims[hour * MAX_PROGRAMMES + p];
        }

        int strengthIn(int hour, int p) {
            return strengths[hour * MAX_PROGRAMMES + p];
        }
    }
}
