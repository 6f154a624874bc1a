import java.math.BigInteger;
import java.util.ArrayList;
import java.util.Arrays;
import java.util.HashMap;
import java.util.List;
import java.util.Map;
import java.util.TreeMap;

/**
 * The document once more, written for plainness alone and apart from KitchenDrift: everything
 * is copied, tried out and counted one by one. RandomRuns holds the two against each other.
 */
final class NaiveKitchen {
    static final int NONE = -6, UNKNOWN = -1, OUTSIDE = -2, STATE = -3, FULL = -4, NO = -5;
    static final long LOST = -1000000000000000000L;

    static final class Guest {
        int room;
        int[] likes = new int[5];
        int talkWith = NONE;
        int talkYet;
        boolean sits;
        int doorTo = NONE;

        Guest copy() {
            Guest g = new Guest();
            g.room = room;
            g.likes = likes.clone();
            g.talkWith = talkWith;
            g.talkYet = talkYet;
            g.sits = sits;
            g.doorTo = doorTo;
            return g;
        }

        boolean busy() {
            return talkYet > 0 || sits || doorTo != NONE;
        }

        String text() {
            return room + "," + talkWith + "," + talkYet + "," + sits + "," + doorTo + ";";
        }
    }

    static final class World {
        int n;
        int[][] things;
        int[] size;
        int[] chairs;
        int[][] width;
        TreeMap<Integer, Guest> guests = new TreeMap<>();
        List<int[]> sights = new ArrayList<>();
        int[] unhinged;

        World(int n) {
            this.n = n;
            things = new int[n][4];
            size = new int[n];
            Arrays.fill(size, 8);
            chairs = new int[n];
            width = new int[n][n];
        }

        World copy() {
            World w = new World(n);
            for (int r = 0; r < n; r++) {
                w.things[r] = things[r].clone();
                w.width[r] = width[r].clone();
            }
            w.size = size.clone();
            w.chairs = chairs.clone();
            for (Map.Entry<Integer, Guest> e : guests.entrySet()) {
                w.guests.put(e.getKey(), e.getValue().copy());
            }
            w.sights.addAll(sights);
            w.unhinged = unhinged;
            return w;
        }

        int in(int room) {
            int c = 0;
            for (Guest g : guests.values()) {
                if (g.room == room) {
                    c++;
                }
            }
            return c;
        }

        int bits(int room) {
            int b = 0;
            for (int g : guests.keySet()) {
                if (guests.get(g).room == room) {
                    b += 1 << g;
                }
            }
            return b;
        }

        int sitting(int room) {
            int c = 0;
            for (Guest g : guests.values()) {
                if (g.room == room && g.sits) {
                    c++;
                }
            }
            return c;
        }

        int standing(int r, int q) {
            int c = 0;
            for (Guest g : guests.values()) {
                if (g.room == r && g.doorTo == q || g.room == q && g.doorTo == r) {
                    c++;
                }
            }
            return c;
        }

        int draw(int guest, int room) {
            Guest g = guests.get(guest);
            int d = 0;
            for (int s = 0; s < 4; s++) {
                d += g.likes[s] * things[room][s];
            }
            for (Map.Entry<Integer, Guest> e : guests.entrySet()) {
                if (e.getKey() != guest && e.getValue().room == room) {
                    d += g.likes[4];
                }
            }
            return d;
        }

        boolean can(int from, int to, Map<String, Integer> passed) {
            if (from == to || width[from][to] == 0 || in(to) >= size[to]) {
                return false;
            }
            int lo = Math.min(from, to), hi = Math.max(from, to);
            if (unhinged != null && unhinged[0] == lo && unhinged[1] == hi) {
                return true;
            }
            return passed.getOrDefault(lo + "-" + hi, 0) < width[from][to] - standing(from, to);
        }

        int next(int guest, Map<String, Integer> passed) {
            int own = guests.get(guest).room;
            int best = -1;
            for (int r = 0; r < n; r++) {
                if (can(own, r, passed) && (best < 0 || draw(guest, r) > draw(guest, best))) {
                    best = r;
                }
            }
            return best >= 0 && draw(guest, best) > draw(guest, own) ? best : own;
        }

        int minute() {
            Map<String, Integer> passed = new HashMap<>();
            int went = 0;
            for (int g : guests.keySet()) {
                Guest who = guests.get(g);
                if (who.busy()) {
                    continue;
                }
                int to = next(g, passed);
                if (to != who.room) {
                    passed.merge(Math.min(to, who.room) + "-" + Math.max(to, who.room), 1, Integer::sum);
                    who.room = to;
                    went++;
                }
            }
            for (Guest g : guests.values()) {
                if (g.talkYet > 0 && --g.talkYet == 0) {
                    g.talkWith = NONE;
                }
            }
            return went;
        }

        World later(int m) {
            World w = copy();
            for (int i = 0; i < m; i++) {
                w.minute();
            }
            return w;
        }

        boolean talking() {
            return guests.values().stream().anyMatch(g -> g.talkYet > 0);
        }

        String text() {
            StringBuilder b = new StringBuilder();
            guests.values().forEach(g -> b.append(g.text()));
            return b.toString();
        }

        int fullest() {
            int most = 0;
            for (int r = 0; r < n; r++) {
                most = Math.max(most, in(r));
            }
            return most;
        }

        void stop(int guest) {
            Guest g = guests.get(guest);
            if (g.talkYet > 0) {
                Guest o = guests.get(g.talkWith);
                o.talkYet = 0;
                o.talkWith = NONE;
            }
            g.talkYet = 0;
            g.talkWith = NONE;
            g.sits = false;
            g.doorTo = NONE;
        }

        /** Does one EVENT; why it can not be, or 0. */
        int event(String e) {
            char a = e.charAt(0);
            if (a == '.') {
                minute();
                return 0;
            }
            if (a >= 'a') {
                int from = a - 'a', to = e.charAt(1) - 'a', sort = e.charAt(2) - '0';
                if (from == to || things[from][sort] == 0 || things[to][sort] == 9) {
                    return 6;
                }
                things[from][sort]--;
                things[to][sort]++;
                return 0;
            }
            Guest g = guests.get(a - 'A');
            char b = e.charAt(1);
            if (b >= 'A' && b <= 'H') {
                Guest o = guests.get(b - 'A');
                if (g == null || o == null) {
                    return 1;
                }
                if (g.busy() || o.busy()) {
                    return 2;
                }
                if (g.room != o.room) {
                    return 3;
                }
                g.talkWith = b - 'A';
                o.talkWith = a - 'A';
                g.talkYet = o.talkYet = e.charAt(2) - '0';
                return 0;
            }
            if (g == null) {
                return 1;
            }
            if (b == '^') {
                if (!g.busy()) {
                    return 2;
                }
                stop(a - 'A');
                return 0;
            }
            if (g.busy()) {
                return 2;
            }
            if (b == '_') {
                if (sitting(g.room) >= chairs[g.room]) {
                    return 4;
                }
                g.sits = true;
                return 0;
            }
            if (width[g.room][b - 'a'] == 0) {
                return 5;
            }
            g.doorTo = b - 'a';
            return 0;
        }

        int tell(int guest, int what) {
            Guest g = guests.get(guest);
            switch (what) {
                case 0: return g.room;
                case 1: return g.talkYet > 0 ? 1 : g.sits ? 2 : g.doorTo != NONE ? 3 : 0;
                case 2: return g.talkYet > 0 ? g.talkWith : g.doorTo;
                default: return g.talkYet;
            }
        }
    }

    World w = new World(3);
    World[] images = new World[2];
    String pad = "";

    boolean noRoom(int r) {
        return r < 0 || r >= w.n;
    }

    boolean noGuest(int g) {
        return !w.guests.containsKey(g);
    }

    static boolean not(int v, int lo, int hi) {
        return v < lo || v > hi;
    }

    int rooms(int n) {
        if (not(n, 2, 6)) return OUTSIDE;
        int was = w.n;
        w = new World(n);
        return was;
    }

    int room(int r, int what, int v) {
        if (noRoom(r)) return UNKNOWN;
        if (not(what, 0, 5) || not(v, what == 4 ? 1 : 0, 9)) return OUTSIDE;
        if (what == 4 && w.in(r) > v || what == 5 && w.sitting(r) > v) return STATE;
        int was = what < 4 ? w.things[r][what] : what == 4 ? w.size[r] : w.chairs[r];
        if (what < 4) w.things[r][what] = v; else if (what == 4) w.size[r] = v; else w.chairs[r] = v;
        return was;
    }

    int door(int r, int q, int width) {
        if (noRoom(r) || noRoom(q) || r == q) return UNKNOWN;
        if (not(width, 0, 3)) return OUTSIDE;
        if (width == 0 && w.standing(r, q) > 0) return STATE;
        int was = w.width[r][q];
        w.width[r][q] = w.width[q][r] = width;
        return was;
    }

    int guest(int g, int r) {
        if (not(g, 0, 7) || noRoom(r)) return UNKNOWN;
        int others = w.in(r) - (!noGuest(g) && w.guests.get(g).room == r ? 1 : 0);
        if (others >= w.size[r]) return FULL;
        if (!noGuest(g)) w.stop(g);
        Guest who = new Guest();
        who.room = r;
        w.guests.put(g, who);
        return w.guests.size();
    }

    int likes(int g, int sort, int v) {
        if (noGuest(g)) return UNKNOWN;
        if (not(sort, 0, 4) || not(v, -3, 3)) return OUTSIDE;
        int was = w.guests.get(g).likes[sort];
        w.guests.get(g).likes[sort] = v;
        return was + 10;
    }

    int leave(int g) {
        if (noGuest(g)) return UNKNOWN;
        w.stop(g);
        w.guests.remove(g);
        return w.guests.size();
    }

    int say(int sign) {
        if (not(sign, 33, 126)) return OUTSIDE;
        if (pad.length() == 60) return FULL;
        pad += (char) sign;
        return pad.length();
    }

    int wipe() {
        int l = pad.length();
        pad = "";
        return l;
    }

    String roomLetters() {
        return "[a-" + (char) ('a' + w.n - 1) + "]";
    }

    String grammar() {
        String l = roomLetters();
        StringBuilder pairs = new StringBuilder();
        for (char c = 'A'; c < 'H'; c++) {
            pairs.append(c).append('[').append((char) (c + 1)).append("-H][1-9]|");
        }
        return "(" + pairs + "[A-H][_^a-" + (char) ('a' + w.n - 1) + "]|" + l + l + "[0-3]|\\.)";
    }

    /** By trying: the longest beginning that some further signs make a PARTY. */
    int fault() {
        String party = grammar() + "*";
        if (pad.matches(party)) return NONE;
        String[] ends = {"", "_", "1", "B1", "H1", "0", "a0"};
        for (int l = 1; l <= pad.length(); l++) {
            String start = pad.substring(0, l);
            boolean can = false;
            for (String end : ends) {
                can |= (start + end).matches(party);
            }
            if (!can) return l - 1;
        }
        return pad.length();
    }

    List<String> events() {
        List<String> all = new ArrayList<>();
        java.util.regex.Matcher m = java.util.regex.Pattern.compile(grammar()).matcher(pad);
        while (m.find()) {
            all.add(m.group());
        }
        return all;
    }

    int judge(int what) {
        if (not(what, 0, 1)) return OUTSIDE;
        if (fault() != NONE) return NO;
        World t = w.copy();
        int i = 0;
        for (String e : events()) {
            int why = t.event(e);
            if (why != 0) return what == 0 ? i : why;
            i++;
        }
        return NONE;
    }

    World played() {
        World t = w.copy();
        for (String e : events()) {
            t.event(e);
        }
        return t;
    }

    int done() {
        if (judge(0) != NONE) return NO;
        int n = events().size();
        w = played();
        pad = "";
        return n;
    }

    int state(int g, int what) {
        if (noGuest(g)) return UNKNOWN;
        return not(what, 0, 3) ? OUTSIDE : w.tell(g, what);
    }

    int behind(int g, int what) {
        if (noGuest(g)) return UNKNOWN;
        if (not(what, 0, 3)) return OUTSIDE;
        return judge(0) != NONE ? NO : played().tell(g, what);
    }

    int draw(int g, int r) {
        return noGuest(g) || noRoom(r) ? UNKNOWN : 1000 + w.draw(g, r);
    }

    int goes(int g) {
        if (noGuest(g)) return UNKNOWN;
        return w.guests.get(g).busy() ? STATE : w.next(g, new HashMap<>());
    }

    int after(int g, int m) {
        if (noGuest(g)) return UNKNOWN;
        return not(m, 0, 99) ? OUTSIDE : w.later(m).guests.get(g).room;
    }

    int crowd(int r, int m) {
        if (noRoom(r)) return UNKNOWN;
        return not(m, 0, 99) ? OUTSIDE : w.later(m).bits(r);
    }

    int still() {
        World t = w.copy();
        for (int i = 1; i <= 99; i++) {
            boolean talked = t.talking();
            int went = t.minute();
            if (!talked && went == 0) return i;
        }
        return NONE;
    }

    int round() {
        if (still() != NONE) return NONE;
        Map<String, Integer> when = new HashMap<>();
        World t = w.copy();
        for (int i = 0; i <= 99; i++) {
            Integer was = when.put(t.text(), i);
            if (was != null) return i - was;
            t.minute();
        }
        return NONE;
    }

    int throng(int m) {
        if (not(m, 1, 99)) return OUTSIDE;
        World t = w.copy();
        int most = 0;
        for (int i = 1; i <= m; i++) {
            t.minute();
            most = Math.max(most, t.fullest());
        }
        return most;
    }

    int carried(int m, int what) {
        if (not(m, 0, 20) || not(what, 0, 1)) return OUTSIDE;
        TreeMap<Integer, Integer> by = new TreeMap<>();
        by.put(0, w.later(m).fullest());
        for (int a = 0; a < w.n; a++) {
            for (int b = 0; b < w.n; b++) {
                for (int s = 0; s < 4; s++) {
                    World t = w.copy();
                    if (t.event("" + (char) ('a' + a) + (char) ('a' + b) + s) == 0) {
                        by.put(100 * (a + 1) + 10 * b + s, t.later(m).fullest());
                    }
                }
            }
        }
        int least = by.values().stream().min(Integer::compare).get();
        for (int code : by.keySet()) {
            if (by.get(code) == least) return what == 0 ? least : code;
        }
        throw new IllegalStateException();
    }

    int hinges(int m, int what) {
        if (not(m, 0, 20) || not(what, 0, 1)) return OUTSIDE;
        int asIs = w.later(m).fullest();
        int least = asIs;
        int which = NONE;
        for (int code = 0; code < 60; code++) {
            int a = code / 10, b = code % 10;
            if (a < b && b < w.n && w.width[a][b] > 0) {
                World t = w.copy();
                t.unhinged = new int[] {a, b};
                int f = t.later(m).fullest();
                if (f < least) {
                    least = f;
                    which = code;
                }
            }
        }
        return what == 0 ? least : which;
    }

    int best(int g) {
        if (noGuest(g)) return UNKNOWN;
        int most = -10000;
        for (int r = 0; r < w.n; r++) {
            most = Math.max(most, w.draw(g, r));
        }
        int own = w.guests.get(g).room;
        if (w.draw(g, own) == most) return own;
        for (int r = 0; r < w.n; r++) {
            if (w.draw(g, r) == most) return r;
        }
        throw new IllegalStateException();
    }

    int rests(int set, int g) {
        if (set < 0 || set > 255) return OUTSIDE;
        List<Integer> who = new ArrayList<>();
        for (int i = 0; i < 8; i++) {
            if ((set >> i & 1) == 1) {
                if (noGuest(i)) return OUTSIDE;
                who.add(i);
            }
        }
        if (g != -1 && !who.contains(g)) return UNKNOWN;
        if (who.size() > 6) return FULL;
        int all = 1;
        for (int i = 0; i < who.size(); i++) {
            all *= w.n;
        }
        int ways = 0;
        int first = NONE;
        World t = w.copy();
        for (int code = 0; code < all; code++) {
            int rest = code;
            for (int i = who.size() - 1; i >= 0; i--) {
                t.guests.get(who.get(i)).room = rest % w.n;
                rest /= w.n;
            }
            if (rests(t, who)) {
                ways++;
                if (ways == 1 && g != -1) {
                    first = t.guests.get(g).room;
                }
            }
        }
        return g == -1 ? ways : first;
    }

    static boolean rests(World t, List<Integer> who) {
        for (int r = 0; r < t.n; r++) {
            if (t.in(r) > t.size[r]) return false;
        }
        for (int g : who) {
            int own = t.guests.get(g).room;
            for (int r = 0; r < t.n; r++) {
                if (r != own && t.in(r) < t.size[r] && t.draw(g, r) > t.draw(g, own)) return false;
            }
        }
        return true;
    }

    int led(int r, int k, int m, int what) {
        if (noRoom(r)) return UNKNOWN;
        if (not(k, 1, 8) || not(m, 0, 20) || not(what, 0, 1)) return OUTSIDE;
        int least = 99;
        int which = NONE;
        for (int set = 0; set < 256; set++) {
            if (Integer.bitCount(set) < least && leads(set, r, k, m)) {
                least = Integer.bitCount(set);
                which = set;
            }
        }
        return which == NONE ? NONE : what == 0 ? least : which;
    }

    boolean leads(int set, int r, int k, int m) {
        World t = w.copy();
        for (int g = 0; g < 8; g++) {
            if ((set >> g & 1) == 1) {
                if (noGuest(g) || t.guests.get(g).busy()) return false;
                t.guests.get(g).room = r;
                t.guests.get(g).sits = true;
            }
        }
        return t.in(r) <= t.size[r] && t.later(m).in(r) >= k;
    }

    int excuses(int g, int r, int i) {
        if (noGuest(g) || noRoom(r)) return UNKNOWN;
        List<List<Integer>> rows = new ArrayList<>();
        List<Integer> start = new ArrayList<>();
        start.add(w.guests.get(g).room);
        rows(start, r, rows);
        if (rows.isEmpty()) return NONE;
        rows.sort((a, b) -> {
            int c = Integer.compare(cost(a), cost(b));
            if (c == 0) c = Integer.compare(a.size(), b.size());
            for (int n = 0; c == 0 && n < a.size(); n++) c = a.get(n).compareTo(b.get(n));
            return c;
        });
        List<Integer> row = rows.get(0);
        if (i == -1) return cost(row);
        return i < 0 || i >= row.size() ? NONE : row.get(i);
    }

    int cost(List<Integer> row) {
        int c = 0;
        for (int n = 1; n < row.size(); n++) {
            c += w.in(row.get(n));
        }
        return c;
    }

    void rows(List<Integer> row, int goal, List<List<Integer>> all) {
        int last = row.get(row.size() - 1);
        if (last == goal) {
            all.add(new ArrayList<>(row));
            return;
        }
        for (int q = 0; q < w.n; q++) {
            if (w.width[last][q] > 0 && !row.contains(q)) {
                row.add(q);
                rows(row, goal, all);
                row.remove(row.size() - 1);
            }
        }
    }

    int seen(int g, int r) {
        if (not(g, 0, 7) || noRoom(r)) return UNKNOWN;
        if (w.sights.size() == 6) return FULL;
        w.sights.add(new int[] {g, r});
        return w.sights.size();
    }

    int forget() {
        int n = w.sights.size();
        w.sights.clear();
        return n;
    }

    int tastes(int g, int sort) {
        if (noGuest(g)) return UNKNOWN;
        if (not(sort, 0, 4)) return OUTSIDE;
        int bits = 0;
        for (int v = -3; v <= 3; v++) {
            World t = w.copy();
            t.guests.get(g).likes[sort] = v;
            int to = t.next(g, new HashMap<>());
            boolean all = true;
            for (int[] s : w.sights) {
                all &= s[0] != g || s[1] == to;
            }
            if (all) bits += 1 << v + 3;
        }
        return bits;
    }

    long drunk(int g, int r, int c, int m, int part) {
        if (noGuest(g) || noRoom(r)) return LOST + UNKNOWN;
        if (not(c, 0, 10) || not(m, 0, 6) || not(part, 0, 1)) return LOST + OUTSIDE;
        BigInteger[] f = chance(w.guests.get(g).room, r, c, m);
        return f[part].longValueExact();
    }

    BigInteger[] chance(int from, int to, int c, int m) {
        if (m == 0) return new BigInteger[] {BigInteger.valueOf(from == to ? 1 : 0), BigInteger.ONE};
        List<Integer> doors = new ArrayList<>();
        for (int q = 0; q < w.n; q++) {
            if (w.width[from][q] > 0) doors.add(q);
        }
        if (doors.isEmpty()) return chance(from, to, c, m - 1);
        BigInteger[] sum = times(chance(from, to, c, m - 1), c, 10);
        for (int q : doors) {
            sum = plus(sum, times(chance(q, to, c, m - 1), 10 - c, 10 * doors.size()));
        }
        return sum;
    }

    static BigInteger[] times(BigInteger[] f, int up, int low) {
        return lowest(f[0].multiply(BigInteger.valueOf(up)), f[1].multiply(BigInteger.valueOf(low)));
    }

    static BigInteger[] plus(BigInteger[] a, BigInteger[] b) {
        return lowest(a[0].multiply(b[1]).add(b[0].multiply(a[1])), a[1].multiply(b[1]));
    }

    static BigInteger[] lowest(BigInteger up, BigInteger low) {
        BigInteger d = up.gcd(low);
        return new BigInteger[] {up.divide(d), low.divide(d)};
    }

    int year(int seed, int m, int what) {
        if (not(seed, 0, 9999) || not(m, 1, 99) || not(what, 0, 2)) return OUTSIDE;
        World t = w.copy();
        long x = seed;
        int went = 0;
        int talks = 0;
        for (int i = 0; i < m; i++) {
            x = (75 * x + 74) % 65537;
            int a = (int) (x % 8), b = (int) (x / 8 % 8);
            String event = "" + (char) ('A' + Math.min(a, b)) + (char) ('A' + Math.max(a, b)) + (1 + x / 64 % 5);
            if (a != b && t.event(event) == 0) talks++;
            went += t.minute();
        }
        return what == 0 ? went : what == 1 ? talks : t.in(0);
    }

    int image(int n) {
        if (not(n, 0, 1)) return OUTSIDE;
        images[n] = w.copy();
        return 1;
    }

    int restore(int n) {
        if (not(n, 0, 1)) return OUTSIDE;
        if (images[n] == null) return STATE;
        w = images[n].copy();
        return 1;
    }

    int told(int what) {
        Map<Integer, Integer> all = new HashMap<>();
        all.put(0, pad.length());
        all.put(1, w.n);
        all.put(2, w.guests.keySet().stream().mapToInt(g -> 1 << g).sum());
        all.put(3, w.sights.size());
        for (int r = 0; r < w.n; r++) {
            for (int s = 0; s < 4; s++) {
                all.put(10 * (1 + r) + s, w.things[r][s]);
            }
            all.put(10 * (1 + r) + 4, w.size[r]);
            all.put(10 * (1 + r) + 5, w.chairs[r]);
            for (int q = 0; q < w.n; q++) {
                if (q != r) all.put(100 * (1 + r) + q, w.width[r][q]);
            }
        }
        for (int g : w.guests.keySet()) {
            for (int s = 0; s < 5; s++) {
                all.put(1000 * (1 + g) + s, w.guests.get(g).likes[s] + 10);
            }
        }
        return all.getOrDefault(what, OUTSIDE);
    }
}
