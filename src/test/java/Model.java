import java.util.ArrayList;
import java.util.List;

/** The document read anew, as plainly as can be, without a thought for speed: what ModelTest compares with. */
final class Model {
    private static final int UNKNOWN = -1000000;

    private record Spot(int zone, int belt, int listeners) { }
    private record Mast(int site, int power) { }
    private record Programme(int land, int from, int until) { }
    private record Fact(boolean notice, int site, int land, int band, int from, int until, int day, int heard) { }
    private record Way(int length, int kind, int aim) { }
    private record Slot(int mast, int band, int aim, int strength) { }

    private final List<Spot> lands = new ArrayList<>();
    private final List<Spot> sites = new ArrayList<>();
    private final List<Mast> masts = new ArrayList<>();
    private final List<Programme> programmes = new ArrayList<>();
    private final List<Fact> facts = new ArrayList<>();
    private final int[][] sheets = new int[4][];
    private final List<Integer> tape = new ArrayList<>();
    private List<TextModel.Rule> rules = new ArrayList<>();
    private int place = -1;
    private int today = 0;
    private Slot[][] atHand = null;
    private int programmesAtHand = 0;

    int feed(int... words) {
        if (tape.size() + 20 > 2000) {
            return -1;
        }
        for (int w : words) {
            for (int k = 3; k >= 0; k--) {
                tape.add(w >>> 8 * k & 255);
            }
        }
        return tape.size();
    }

    int back(int n) {
        if (n < 0 || n > tape.size()) {
            return -1;
        }
        tape.subList(tape.size() - n, tape.size()).clear();
        return tape.size();
    }

    int read() {
        TextModel text = new TextModel(tape);
        tape.clear();
        place = text.place;
        if (text.fault == 0) {
            rules = text.rules;
        }
        return text.fault;
    }

    int place() {
        return place;
    }

    private static boolean in(int v, int from, int to) {
        return from <= v && v <= to;
    }

    int ground(int zone, int belt, int listeners) {
        if (!in(zone, 0, 23) || !in(belt, 0, 6) || !in(listeners, 0, 10000)) {
            return -1;
        }
        List<Spot> spots = listeners == 0 ? sites : lands;
        if (spots.size() == (listeners == 0 ? 4 : 8)) {
            return -1;
        }
        spots.add(new Spot(zone, belt, listeners));
        return spots.size() - 1;
    }

    int mast(int site, int power) {
        if (!in(site, 0, sites.size() - 1) || !in(power, 1, 9) || masts.size() == 6) {
            return -1;
        }
        masts.add(new Mast(site, power));
        return masts.size() - 1;
    }

    int programme(int land, int from, int until) {
        if (!in(land, 0, lands.size() - 1) || !in(until, 1, 24) || !in(from, 0, until - 1) || programmes.size() == 10) {
            return -1;
        }
        programmes.add(new Programme(land, from, until));
        return programmes.size() - 1;
    }

    boolean sheet(int season, int n) {
        if (!in(season, 0, 3) || !in(n, -1, 270)) {
            return false;
        }
        sheets[season] = n == -1 ? null : new int[n];
        return true;
    }

    boolean cell(int season, int i, int v) {
        if (!in(season, 0, 3) || sheets[season] == null || !in(i, 0, sheets[season].length - 1) || !in(v, -99, 99)) {
            return false;
        }
        sheets[season][i] = v;
        return true;
    }

    boolean clock(int d) {
        if (!in(d, today, 3599)) {
            return false;
        }
        today = d;
        return true;
    }

    private boolean path(int site, int land, int band) {
        return in(site, 0, sites.size() - 1) && in(land, 0, lands.size() - 1) && in(band, 0, 5);
    }

    int report(int site, int land, int band, int hour, int heard) {
        if (!path(site, land, band) || !in(hour, 0, 23) || !in(heard, -99, 99) || facts.size() == 300) {
            return -1;
        }
        facts.add(new Fact(false, site, land, band, hour, hour, today, heard));
        return facts.size() - 1;
    }

    int notice(int band, int from, int until, int land, int day) {
        if (!in(band, 0, 5) || !in(until, 1, 24) || !in(from, 0, until - 1) || !in(land, 0, lands.size() - 1)
            || !in(day, 0, 3599) || facts.size() == 300) {
            return -1;
        }
        facts.add(new Fact(true, -1, land, band, from, until, day, 0));
        return facts.size() - 1;
    }

    private static Way wayOf(Spot a, Spot b) {
        int further = ((b.zone - a.zone) % 24 + 24) % 24;
        int dx = further > 12 ? 24 - further : further;
        int dy = Math.abs(a.belt - b.belt);
        int around = dx + dy;
        int north = a.belt + b.belt + 1 + (12 - dx);
        int south = (6 - a.belt) + (6 - b.belt) + 1 + (12 - dx);
        if (around <= north && around <= south) {
            return new Way(around, 0, aimAround(further, b.belt - a.belt));
        }
        return north <= south ? new Way(north, 1, 0) : new Way(south, 2, 4);
    }

    private static int aimAround(int further, int southward) {
        if (further == 0) {
            return southward > 0 ? 4 : 0;
        }
        boolean east = further <= 12;
        if (southward == 0) {
            return east ? 2 : 6;
        }
        if (southward < 0) {
            return east ? 1 : 7;
        }
        return east ? 3 : 5;
    }

    private static int far(Way w) {
        return Math.min(4, w.length / 5);
    }

    int way(int s, int l, int what) {
        if (!path(s, l, 0) || !in(what, 0, 3)) {
            return -1;
        }
        Way w = wayOf(sites.get(s), lands.get(l));
        return new int[] {w.length, far(w), w.aim, w.kind}[what];
    }

    private static int sunOf(Spot s, int day, int hour) {
        int local = (hour + s.zone) % 24;
        int season = day / 90 % 4;
        int side = s.belt < 3 ? 1 : s.belt > 3 ? -1 : 0;
        int light = season == 1 ? side : season == 3 ? -side : 0;
        String hours = light == 1 ? "000012222222222222210000"
            : light == -1 ? "000000012222222210000000" : "000001122222222221100000";
        return hours.charAt(local) - '0';
    }

    int sun(boolean site, int k, int day, int hour) {
        List<Spot> spots = site ? sites : lands;
        return in(k, 0, spots.size() - 1) && in(day, 0, 3599) && in(hour, 0, 23) ? sunOf(spots.get(k), day, hour) : -1;
    }

    private Integer cellOf(int site, int land, int band, int day, int hour) {
        Spot s = sites.get(site);
        Spot l = lands.get(land);
        int i = ((sunOf(s, day, hour) * 3 + sunOf(l, day, hour)) * 5 + far(wayOf(s, l))) * 6 + band;
        int[] sheet = sheets[day / 90 % 4];
        return sheet == null || i >= sheet.length ? null : sheet[i];
    }

    private int correctionOf(int site, int land, int band, int n) {
        double sum = 0;
        int many = 0;
        for (Fact f : facts.subList(0, n)) {
            if (!f.notice && f.site == site && f.land == land && f.band == band) {
                Integer cell = cellOf(site, land, band, f.day, f.from);
                if (cell != null) {
                    sum += f.heard - cell;
                    many++;
                }
            }
        }
        return many == 0 ? 0 : (int) Math.floor(sum / many);
    }

    int correction(int site, int land, int band, int n) {
        return path(site, land, band) && in(n, 0, facts.size()) ? correctionOf(site, land, band, n) : UNKNOWN;
    }

    private boolean sending(int m, int band, int land, int day, int hour) {
        return in(m, 0, masts.size() - 1) && path(0, land, band) && in(day, 0, 3599) && in(hour, 0, 23);
    }

    int strength(int m, int band, int land, int day, int hour, int n) {
        if (!sending(m, band, land, day, hour) || !in(n, 0, facts.size())) {
            return UNKNOWN;
        }
        Mast mast = masts.get(m);
        Integer cell = cellOf(mast.site, land, band, day, hour);
        return cell == null ? UNKNOWN : cell + correctionOf(mast.site, land, band, n) + mast.power;
    }

    private boolean clash(int band, int land, int day, int hour, Fact f) {
        return f.notice && f.day <= day && f.band == band && in(hour, f.from, f.until - 1)
            && far(wayOf(lands.get(land), lands.get(f.land))) == 0;
    }

    int rule(int m, int band, int land, int day, int hour, int f) {
        if (!sending(m, band, land, day, hour) || !in(f, 0, facts.size() - 1) || !clash(band, land, day, hour, facts.get(f))) {
            return -1;
        }
        Fact fact = facts.get(f);
        int[] vars = {band, hour, day, land, fact.land, masts.get(m).power, fact.day, f};
        for (int r = 0; r < rules.size(); r++) {
            if (rules.get(r).decides(day, vars)) {
                return r;
            }
        }
        return -1;
    }

    int yields(int m, int band, int land, int day, int hour, int n) {
        if (!sending(m, band, land, day, hour) || !in(n, 0, facts.size())) {
            return -1;
        }
        for (int f = 0; f < n; f++) {
            if (clash(band, land, day, hour, facts.get(f))) {
                int r = rule(m, band, land, day, hour, f);
                if (r == -1 || !rules.get(r).they) {
                    return f;
                }
            }
        }
        return -1;
    }

    int schedule(int day, int n) {
        if (!in(day, 0, 3599) || !in(n, 0, facts.size())) {
            return -1;
        }
        atHand = new Slot[24][10];
        programmesAtHand = programmes.size();
        int total = 0;
        for (int hour = 0; hour < 24; hour++) {
            Slot[][] options = new Slot[programmes.size()][masts.size()];
            for (int p = 0; p < programmes.size(); p++) {
                for (int m = 0; m < masts.size(); m++) {
                    options[p][m] = option(p, m, day, hour, n);
                }
            }
            best = null;
            search(options, 0, new Slot[10]);
            atHand[hour] = best;
            total += listeners(hour);
        }
        return total;
    }

    private Slot option(int p, int m, int day, int hour, int n) {
        Programme programme = programmes.get(p);
        if (!in(hour, programme.from, programme.until - 1)) {
            return null;
        }
        int aim = wayOf(sites.get(masts.get(m).site), lands.get(programme.land)).aim;
        int band = -1;
        int most = UNKNOWN;
        for (int b = 5; b >= 0; b--) {
            int s = strength(m, b, programme.land, day, hour, n);
            if (s != UNKNOWN && s >= most && yields(m, b, programme.land, day, hour, n) == -1) {
                band = b;
                most = s;
            }
        }
        if (band == -1 || most < 10) {
            return null;
        }
        if (hour > 0) {
            for (Slot ahead : atHand[hour - 1]) {
                if (ahead != null && ahead.mast == m && ahead.aim != aim) {
                    return null;
                }
            }
        }
        return new Slot(m, band, aim, most);
    }

    private Slot[] best = null;

    /** All pairings, in the order of the last rule: so a later one has to be better, not as good. */
    private void search(Slot[][] options, int p, Slot[] chosen) {
        if (p == options.length) {
            if (best == null || better(chosen, best)) {
                best = chosen.clone();
            }
            return;
        }
        for (Slot s : options[p]) {
            boolean used = false;
            for (int q = 0; q < p && s != null; q++) {
                used |= chosen[q] != null && chosen[q].mast == s.mast;
            }
            if (s != null && !used) {
                chosen[p] = s;
                search(options, p + 1, chosen);
            }
        }
        chosen[p] = null;
        search(options, p + 1, chosen);
    }

    private boolean better(Slot[] a, Slot[] b) {
        return heads(a) != heads(b) ? heads(a) > heads(b) : strengths(a) > strengths(b);
    }

    private int heads(Slot[] slots) {
        int sum = 0;
        for (int p = 0; p < 10; p++) {
            sum += slots[p] == null ? 0 : lands.get(programmes.get(p).land).listeners;
        }
        return sum;
    }

    private static int strengths(Slot[] slots) {
        int sum = 0;
        for (Slot s : slots) {
            sum += s == null ? 0 : s.strength;
        }
        return sum;
    }

    int slot(int hour, int p, int what) {
        if (atHand == null || !in(hour, 0, 23) || !in(p, 0, programmesAtHand - 1) || !in(what, 0, 3)) {
            return -1;
        }
        Slot s = atHand[hour][p];
        if (s == null) {
            return what == 3 ? 0 : -1;
        }
        return new int[] {s.mast, s.band, s.aim, s.strength}[what];
    }

    int listeners(int hour) {
        return atHand == null || !in(hour, 0, 23) ? -1 : heads(atHand[hour]);
    }

    int count(int what) {
        int[] counts = {lands.size(), sites.size(), masts.size(), programmes.size(), facts.size(), rules.size(), today, tape.size()};
        return in(what, 0, 7) ? counts[what] : -1;
    }
}
