import java.util.Arrays;

/**
 * Guests who drift through rooms by what draws them. ../shared/DOC.md says, as numbered
 * promises, what each call answers; words in capitals there are used here in the same sense.
 */
public final class KitchenDrift {
    public static final int NONE = -6, UNKNOWN = -1, OUTSIDE = -2, STATE = -3, FULL = -4, NO = -5;
    public static final long LOST = -1000000000000000000L;

    private static final int MOST_ROOMS = 6;
    private static final int LEAST_ROOMS = 2;
    private static final int FIRST_ROOMS = 3;
    private static final int MOST_GUESTS = 8;
    private static final int ALL_GUESTS = 255;
    private static final int SORTS = 4;
    private static final int MOST_THINGS = 9;
    private static final int SIZE = 4;
    private static final int CHAIRS = 5;
    private static final int MEASURES = 6;
    private static final int FIRST_SIZE = 8;
    private static final int MOST_WIDTH = 3;
    private static final int COMPANY = 4;
    private static final int LIKES = 5;
    private static final int MOST_LIKES = 3;
    private static final int IDLE = 0;
    private static final int TALKS = 1;
    private static final int SITS = 2;
    private static final int BLOCKS = 3;
    private static final int MOST_SIGNS = 60;
    private static final int MOST_SIGHTS = 6;
    private static final int MOST_AT_REST = 6;
    private static final int LONG_WHILE = 99;
    private static final int SHORT_WHILE = 20;
    private static final int DRUNK_WHILE = 6;
    private static final int IMAGES = 2;

    private final House now = new House();
    private final House[] images = {new House(), new House()};
    private final boolean[] kept = new boolean[IMAGES];
    private final Pad pad = new Pad();
    private final Drift drift = new Drift();
    private final Play play = new Play();
    private final Rest rest = new Rest();
    private final Route route = new Route();
    private final Stagger stagger = new Stagger();
    private final Year draws = new Year();
    private final long[] ends = new long[LONG_WHILE + 1];

    public KitchenDrift() {
        now.clear(FIRST_ROOMS);
    }

    // ---- 1 rooms, guests, parties

    public int rooms(int n) {
        if (n < LEAST_ROOMS || n > MOST_ROOMS) {
            return OUTSIDE;
        }
        int was = now.rooms;
        now.clear(n);
        return was;
    }

    public int room(int room, int what, int v) {
        if (!now.isRoom(room)) {
            return UNKNOWN;
        }
        if (what < 0 || what >= MEASURES || v < (what == SIZE ? 1 : 0) || v > MOST_THINGS) {
            return OUTSIDE;
        }
        if (what == SIZE && v < now.count(room) || what == CHAIRS && v < now.sitters(room)) {
            return STATE;
        }
        int at = room * MEASURES + what;
        int was = now.measure[at];
        now.measure[at] = v;
        return was;
    }

    public int door(int room, int other, int width) {
        if (!now.isRoom(room) || !now.isRoom(other) || room == other) {
            return UNKNOWN;
        }
        if (width < 0 || width > MOST_WIDTH) {
            return OUTSIDE;
        }
        if (width == 0 && now.jam(room, other) > 0) {
            return STATE;
        }
        int was = now.widthOf(room, other);
        now.width[room * MOST_ROOMS + other] = width;
        now.width[other * MOST_ROOMS + room] = width;
        return was;
    }

    public int guest(int guest, int room) {
        if (guest < 0 || guest >= MOST_GUESTS || !now.isRoom(room)) {
            return UNKNOWN;
        }
        if (now.others(guest, room) >= now.sizeOf(room)) {
            return FULL;
        }
        now.dismiss(guest);
        now.there |= 1 << guest;
        now.place[guest] = room;
        return Integer.bitCount(now.there);
    }

    public int likes(int guest, int sort, int v) {
        if (!now.isThere(guest)) {
            return UNKNOWN;
        }
        if (sort < 0 || sort >= LIKES || v < -MOST_LIKES || v > MOST_LIKES) {
            return OUTSIDE;
        }
        int at = guest * LIKES + sort;
        int was = now.likes[at];
        now.likes[at] = v;
        return was + 10;
    }

    public int leave(int guest) {
        if (!now.isThere(guest)) {
            return UNKNOWN;
        }
        now.dismiss(guest);
        return Integer.bitCount(now.there);
    }

    public int say(int sign) {
        if (sign < 33 || sign > 126) {
            return OUTSIDE;
        }
        return pad.add(sign) ? pad.used : FULL;
    }

    public int wipe() {
        int were = pad.used;
        pad.used = 0;
        return were;
    }

    public int fault() {
        return pad.flaw(now.rooms);
    }

    // ---- 2 parties

    public int judge(int what) {
        if (what < 0 || what > 1) {
            return OUTSIDE;
        }
        if (pad.flaw(now.rooms) != NONE) {
            return NO;
        }
        play.perform(pad, now, drift);
        if (play.why == 0) {
            return NONE;
        }
        return what == 0 ? play.events : play.why;
    }

    public int done() {
        if (!playsOut()) {
            return NO;
        }
        now.copy(drift.house);
        pad.used = 0;
        return play.events;
    }

    public int state(int guest, int what) {
        if (!now.isThere(guest)) {
            return UNKNOWN;
        }
        return now.tellGuest(guest, what);
    }

    public int behind(int guest, int what) {
        if (!now.isThere(guest)) {
            return UNKNOWN;
        }
        if (what < 0 || what > 3) {
            return OUTSIDE;
        }
        return playsOut() ? drift.house.tellGuest(guest, what) : NO;
    }

    public int draw(int guest, int room) {
        if (!now.isThere(guest) || !now.isRoom(room)) {
            return UNKNOWN;
        }
        return now.pull(guest, room) + 1000;
    }

    public int goes(int guest) {
        if (!now.isThere(guest)) {
            return UNKNOWN;
        }
        if (now.busy[guest] != IDLE) {
            return STATE;
        }
        drift.begin(now);
        return drift.target(guest);
    }

    public int after(int guest, int m) {
        if (!now.isThere(guest)) {
            return UNKNOWN;
        }
        if (m < 0 || m > LONG_WHILE) {
            return OUTSIDE;
        }
        drift.begin(now);
        drift.run(m);
        return drift.house.place[guest];
    }

    public int crowd(int room, int m) {
        if (!now.isRoom(room)) {
            return UNKNOWN;
        }
        if (m < 0 || m > LONG_WHILE) {
            return OUTSIDE;
        }
        drift.begin(now);
        drift.run(m);
        return drift.house.bitsIn(room);
    }

    public int still() {
        return firstStill();
    }

    public int round() {
        if (firstStill() != NONE) {
            return NONE;
        }
        drift.begin(now);
        ends[0] = drift.house.key();
        for (int t = 1; t <= LONG_WHILE; t++) {
            drift.minute();
            ends[t] = drift.house.key();
            for (int s = 0; s < t; s++) {
                if (ends[s] == ends[t]) {
                    return t - s;
                }
            }
        }
        return NONE;
    }

    public int throng(int m) {
        if (m < 1 || m > LONG_WHILE) {
            return OUTSIDE;
        }
        drift.begin(now);
        int most = 0;
        for (int t = 0; t < m; t++) {
            drift.minute();
            most = Math.max(most, drift.fullest());
        }
        return most;
    }

    // ---- 3 carrying, doors, rests

    public int carried(int m, int what) {
        if (m < 0 || m > SHORT_WHILE || what < 0 || what > 1) {
            return OUTSIDE;
        }
        int fewest = fullestBehind(m);
        int which = 0;
        for (int way = 0; way < MOST_ROOMS * MOST_ROOMS * SORTS; way++) {
            int from = way / (MOST_ROOMS * SORTS);
            int to = way / SORTS % MOST_ROOMS;
            int sort = way % SORTS;
            boolean can = now.isRoom(from) && now.isRoom(to) && now.whyNotCarry(from, to, sort) == 0;
            int full = can ? fullestCarrying(from, to, sort, m) : fewest;
            if (full < fewest) {
                fewest = full;
                which = 100 * (from + 1) + 10 * to + sort;
            }
        }
        return what == 0 ? fewest : which;
    }

    public int hinges(int m, int what) {
        if (m < 0 || m > SHORT_WHILE || what < 0 || what > 1) {
            return OUTSIDE;
        }
        int fewest = fullestBehind(m);
        int which = NONE;
        for (int room = 0; room < now.rooms; room++) {
            for (int other = room + 1; other < now.rooms; other++) {
                int full = now.widthOf(room, other) > 0 ? fullestUnhinged(room, other, m) : fewest;
                if (full < fewest) {
                    fewest = full;
                    which = 10 * room + other;
                }
            }
        }
        return what == 0 ? fewest : which;
    }

    public int best(int guest) {
        if (!now.isThere(guest)) {
            return UNKNOWN;
        }
        int best = now.place[guest];
        int most = now.pull(guest, best);
        for (int room = 0; room < now.rooms; room++) {
            int pull = now.pull(guest, room);
            if (pull > most) {
                most = pull;
                best = room;
            }
        }
        return best;
    }

    public int rests(int set, int guest) {
        if (set < 0 || set > ALL_GUESTS || (set & ~now.there) != 0) {
            return OUTSIDE;
        }
        if (guest != -1 && !isIn(set, guest)) {
            return UNKNOWN;
        }
        if (Integer.bitCount(set) > MOST_AT_REST) {
            return FULL;
        }
        rest.find(now, set);
        return guest == -1 ? rest.ways : rest.roomOf(guest);
    }

    public int led(int room, int k, int m, int what) {
        if (!now.isRoom(room)) {
            return UNKNOWN;
        }
        if (k < 1 || k > MOST_GUESTS || m < 0 || m > SHORT_WHILE || what < 0 || what > 1) {
            return OUTSIDE;
        }
        int idle = now.idle();
        for (int few = 0; few <= Integer.bitCount(idle); few++) {
            for (int set = 0; set <= idle; set++) {
                if (Integer.bitCount(set) == few && (set & ~idle) == 0 && leadsTo(set, room, k, m)) {
                    return what == 0 ? few : set;
                }
            }
        }
        return NONE;
    }

    public int excuses(int guest, int room, int i) {
        if (!now.isThere(guest) || !now.isRoom(room)) {
            return UNKNOWN;
        }
        route.measure(now, room);
        int from = now.place[guest];
        return i == -1 ? route.excusesFrom(from) : route.step(now, from, i);
    }

    // ---- 4 sights, chances, years

    public int seen(int guest, int room) {
        if (guest < 0 || guest >= MOST_GUESTS || !now.isRoom(room)) {
            return UNKNOWN;
        }
        if (now.sights >= MOST_SIGHTS) {
            return FULL;
        }
        now.sightGuest[now.sights] = guest;
        now.sightRoom[now.sights] = room;
        now.sights++;
        return now.sights;
    }

    public int forget() {
        int were = now.sights;
        now.sights = 0;
        return were;
    }

    public int tastes(int guest, int sort) {
        if (!now.isThere(guest)) {
            return UNKNOWN;
        }
        if (sort < 0 || sort >= LIKES) {
            return OUTSIDE;
        }
        drift.begin(now);
        int fit = 0;
        for (int bit = 0; bit <= 2 * MOST_LIKES; bit++) {
            drift.house.likes[guest * LIKES + sort] = bit - MOST_LIKES;
            drift.ready();
            if (now.sightsHold(guest, drift.target(guest))) {
                fit |= 1 << bit;
            }
        }
        return fit;
    }

    public long drunk(int guest, int room, int c, int m, int part) {
        if (!now.isThere(guest) || !now.isRoom(room)) {
            return LOST + UNKNOWN;
        }
        if (c < 0 || c > 10 || m < 0 || m > DRUNK_WHILE || part < 0 || part > 1) {
            return LOST + OUTSIDE;
        }
        stagger.walk(now, guest, c, m);
        return part == 0 ? stagger.upper(room) : stagger.lower(room);
    }

    public int year(int seed, int m, int what) {
        if (seed < 0 || seed > 9999 || m < 1 || m > LONG_WHILE || what < 0 || what > 2) {
            return OUTSIDE;
        }
        drift.begin(now);
        draws.pass(seed, m, drift);
        if (what == 0) {
            return draws.went;
        }
        return what == 1 ? draws.talks : drift.house.count(0);
    }

    public int image(int n) {
        if (n < 0 || n >= IMAGES) {
            return OUTSIDE;
        }
        images[n].copy(now);
        kept[n] = true;
        return 1;
    }

    public int restore(int n) {
        if (n < 0 || n >= IMAGES) {
            return OUTSIDE;
        }
        if (!kept[n]) {
            return STATE;
        }
        now.copy(images[n]);
        return 1;
    }

    public int told(int what) {
        switch (what) {
            case 0:
                return pad.used;
            case 1:
                return now.rooms;
            case 2:
                return now.there;
            case 3:
                return now.sights;
            default:
                return toldByCode(what);
        }
    }

    // ---- what several calls share

    private int toldByCode(int what) {
        if (what < 10) {
            return OUTSIDE;
        }
        if (what < 100) {
            int room = what / 10 - 1;
            int measure = what % 10;
            return now.isRoom(room) && measure < MEASURES ? now.measure[room * MEASURES + measure] : OUTSIDE;
        }
        if (what < 1000) {
            int room = what / 100 - 1;
            int other = what % 100;
            return now.isRoom(room) && now.isRoom(other) && room != other ? now.widthOf(room, other) : OUTSIDE;
        }
        int guest = what / 1000 - 1;
        int sort = what % 1000;
        return now.isThere(guest) && sort < LIKES ? now.likes[guest * LIKES + sort] + 10 : OUTSIDE;
    }

    /** Plays the PARTY in the drift's house; false if it has a fault, or an EVENT that can not be. */
    private boolean playsOut() {
        if (pad.flaw(now.rooms) != NONE) {
            return false;
        }
        play.perform(pad, now, drift);
        return play.why == 0;
    }

    private int firstStill() {
        drift.begin(now);
        for (int t = 1; t <= LONG_WHILE; t++) {
            if (drift.stillMinute()) {
                return t;
            }
        }
        return NONE;
    }

    private int fullestBehind(int m) {
        drift.begin(now);
        drift.run(m);
        return drift.fullest();
    }

    private int fullestCarrying(int from, int to, int sort, int m) {
        drift.house.copy(now);
        drift.house.carry(from, to, sort);
        drift.ready();
        drift.run(m);
        return drift.fullest();
    }

    private int fullestUnhinged(int room, int other, int m) {
        drift.begin(now);
        drift.unhinge(room, other);
        drift.run(m);
        return drift.fullest();
    }

    private boolean leadsTo(int set, int room, int k, int m) {
        int together = Integer.bitCount(now.bitsIn(room) | set);
        if (together > now.sizeOf(room)) {
            return false;
        }
        drift.house.copy(now);
        for (int g = 0; g < MOST_GUESTS; g++) {
            if (isIn(set, g)) {
                drift.house.place[g] = room;
                drift.house.sit(g);
            }
        }
        drift.ready();
        drift.run(m);
        return drift.house.count(room) >= k;
    }

    private static boolean isIn(int set, int guest) {
        return guest >= 0 && guest < MOST_GUESTS && (set >> guest & 1) == 1;
    }

    /** All that an IMAGE keeps: ROOMS, DOORS, GUESTS, SIGHTS. Rows of a GUEST who is not there are as at first. */
    private static final class House {
        int rooms;
        int there;
        int sights;
        final int[] measure = new int[MOST_ROOMS * MEASURES];
        final int[] width = new int[MOST_ROOMS * MOST_ROOMS];
        final int[] place = new int[MOST_GUESTS];
        final int[] busy = new int[MOST_GUESTS];
        final int[] mate = new int[MOST_GUESTS];
        final int[] left = new int[MOST_GUESTS];
        final int[] likes = new int[MOST_GUESTS * LIKES];
        final int[] sightGuest = new int[MOST_SIGHTS];
        final int[] sightRoom = new int[MOST_SIGHTS];

        void clear(int n) {
            rooms = n;
            there = 0;
            sights = 0;
            Arrays.fill(measure, 0);
            for (int room = 0; room < MOST_ROOMS; room++) {
                measure[room * MEASURES + SIZE] = FIRST_SIZE;
            }
            Arrays.fill(width, 0);
            Arrays.fill(place, 0);
            Arrays.fill(busy, IDLE);
            Arrays.fill(mate, NONE);
            Arrays.fill(left, 0);
            Arrays.fill(likes, 0);
        }

        void copy(House from) {
            rooms = from.rooms;
            there = from.there;
            sights = from.sights;
            System.arraycopy(from.measure, 0, measure, 0, measure.length);
            System.arraycopy(from.width, 0, width, 0, width.length);
            System.arraycopy(from.place, 0, place, 0, place.length);
            System.arraycopy(from.busy, 0, busy, 0, busy.length);
            System.arraycopy(from.mate, 0, mate, 0, mate.length);
            System.arraycopy(from.left, 0, left, 0, left.length);
            System.arraycopy(from.likes, 0, likes, 0, likes.length);
            System.arraycopy(from.sightGuest, 0, sightGuest, 0, sightGuest.length);
            System.arraycopy(from.sightRoom, 0, sightRoom, 0, sightRoom.length);
        }

        boolean isRoom(int room) {
            return room >= 0 && room < rooms;
        }

        boolean isThere(int guest) {
            return guest >= 0 && guest < MOST_GUESTS && (there >> guest & 1) == 1;
        }

        int sizeOf(int room) {
            return measure[room * MEASURES + SIZE];
        }

        int widthOf(int room, int other) {
            return width[room * MOST_ROOMS + other];
        }

        int bitsIn(int room) {
            int bits = 0;
            for (int g = 0; g < MOST_GUESTS; g++) {
                if (isThere(g) && place[g] == room) {
                    bits |= 1 << g;
                }
            }
            return bits;
        }

        int count(int room) {
            return Integer.bitCount(bitsIn(room));
        }

        int others(int guest, int room) {
            return Integer.bitCount(bitsIn(room) & ~(1 << guest));
        }

        int sitters(int room) {
            int sit = 0;
            for (int g = 0; g < MOST_GUESTS; g++) {
                if (busy[g] == SITS && place[g] == room) {
                    sit++;
                }
            }
            return sit;
        }

        /** How many stand in the DOOR, on either side. */
        int jam(int room, int other) {
            int stand = 0;
            for (int g = 0; g < MOST_GUESTS; g++) {
                boolean here = place[g] == room && mate[g] == other || place[g] == other && mate[g] == room;
                if (busy[g] == BLOCKS && here) {
                    stand++;
                }
            }
            return stand;
        }

        int idle() {
            int bits = 0;
            for (int g = 0; g < MOST_GUESTS; g++) {
                if (isThere(g) && busy[g] == IDLE) {
                    bits |= 1 << g;
                }
            }
            return bits;
        }

        boolean anyTalks() {
            for (int g = 0; g < MOST_GUESTS; g++) {
                if (busy[g] == TALKS) {
                    return true;
                }
            }
            return false;
        }

        /** The DRAW but for company. */
        int pullOfThings(int guest, int room) {
            int pull = 0;
            for (int sort = 0; sort < SORTS; sort++) {
                pull += likes[guest * LIKES + sort] * measure[room * MEASURES + sort];
            }
            return pull;
        }

        int pull(int guest, int room) {
            return pullOfThings(guest, room) + likes[guest * LIKES + COMPANY] * others(guest, room);
        }

        boolean sightsHold(int guest, int room) {
            for (int s = 0; s < sights; s++) {
                if (sightGuest[s] == guest && sightRoom[s] != room) {
                    return false;
                }
            }
            return true;
        }

        int tellGuest(int guest, int what) {
            switch (what) {
                case 0:
                    return place[guest];
                case 1:
                    return busy[guest];
                case 2:
                    return mate[guest];
                case 3:
                    return left[guest];
                default:
                    return OUTSIDE;
            }
        }

        /** Where all are and how long they talk: in MINUTES alone nothing else ever changes. */
        long key() {
            long key = 0;
            for (int g = 0; g < MOST_GUESTS; g++) {
                key = key << 7 | place[g] << 4 | left[g];
            }
            return key;
        }

        void dismiss(int guest) {
            rise(guest);
            there &= ~(1 << guest);
            place[guest] = 0;
            for (int sort = 0; sort < LIKES; sort++) {
                likes[guest * LIKES + sort] = 0;
            }
        }

        int whyNotTalk(int guest, int other) {
            if (!isThere(guest) || !isThere(other)) {
                return 1;
            }
            if (busy[guest] != IDLE || busy[other] != IDLE) {
                return 2;
            }
            return place[guest] != place[other] ? 3 : 0;
        }

        int whyNotSit(int guest) {
            if (!isThere(guest)) {
                return 1;
            }
            if (busy[guest] != IDLE) {
                return 2;
            }
            int room = place[guest];
            return sitters(room) >= measure[room * MEASURES + CHAIRS] ? 4 : 0;
        }

        int whyNotBlock(int guest, int room) {
            if (!isThere(guest)) {
                return 1;
            }
            if (busy[guest] != IDLE) {
                return 2;
            }
            return widthOf(place[guest], room) == 0 ? 5 : 0;
        }

        int whyNotRise(int guest) {
            if (!isThere(guest)) {
                return 1;
            }
            return busy[guest] == IDLE ? 2 : 0;
        }

        int whyNotCarry(int from, int to, int sort) {
            boolean have = measure[from * MEASURES + sort] > 0;
            boolean space = measure[to * MEASURES + sort] < MOST_THINGS;
            return from != to && have && space ? 0 : 6;
        }

        void talk(int guest, int other, int minutes) {
            engage(guest, TALKS, other, minutes);
            engage(other, TALKS, guest, minutes);
        }

        void sit(int guest) {
            engage(guest, SITS, NONE, 0);
        }

        void block(int guest, int room) {
            engage(guest, BLOCKS, room, 0);
        }

        void rise(int guest) {
            int other = mate[guest];
            if (busy[guest] == TALKS && isThere(other)) {
                engage(other, IDLE, NONE, 0);
            }
            engage(guest, IDLE, NONE, 0);
        }

        void carry(int from, int to, int sort) {
            measure[from * MEASURES + sort]--;
            measure[to * MEASURES + sort]++;
        }

        void talkOn() {
            for (int g = 0; g < MOST_GUESTS; g++) {
                if (busy[g] == TALKS) {
                    left[g]--;
                    if (left[g] <= 0) {
                        engage(g, IDLE, NONE, 0);
                    }
                }
            }
        }

        private void engage(int guest, int how, int whom, int minutes) {
            busy[guest] = how;
            mate[guest] = whom;
            left[guest] = minutes;
        }
    }

    /** Lets MINUTES pass in a house of its own, so that nothing is DONE in fact. */
    private static final class Drift {
        private static final int UNHINGED = 1000;

        final House house = new House();
        private final int[] taste = new int[MOST_GUESTS * MOST_ROOMS];
        private final int[] crowd = new int[MOST_ROOMS];
        private final int[] wide = new int[MOST_ROOMS * MOST_ROOMS];
        private final int[] gone = new int[MOST_ROOMS * MOST_ROOMS];

        void begin(House from) {
            house.copy(from);
            ready();
        }

        /** To be called when anything but the passing of MINUTES has changed the house. */
        void ready() {
            Arrays.fill(gone, 0);
            Arrays.fill(crowd, 0);
            System.arraycopy(house.width, 0, wide, 0, wide.length);
            for (int g = 0; g < MOST_GUESTS; g++) {
                if (house.isThere(g)) {
                    crowd[house.place[g]]++;
                    readyTastes(g);
                    readyJam(g);
                }
            }
        }

        private void readyTastes(int guest) {
            for (int room = 0; room < house.rooms; room++) {
                taste[guest * MOST_ROOMS + room] = house.pullOfThings(guest, room);
            }
        }

        private void readyJam(int guest) {
            int room = house.place[guest];
            int other = house.mate[guest];
            if (house.busy[guest] == BLOCKS && house.isRoom(other)) {
                wide[room * MOST_ROOMS + other]--;
                wide[other * MOST_ROOMS + room]--;
            }
        }

        void unhinge(int room, int other) {
            wide[room * MOST_ROOMS + other] = UNHINGED;
            wide[other * MOST_ROOMS + room] = UNHINGED;
        }

        /** The ROOM to which a GUEST would go, BUSY or not; his own, if he stays. */
        int target(int guest) {
            int own = house.place[guest];
            int company = house.likes[guest * LIKES + COMPANY];
            int best = own;
            int most = taste[guest * MOST_ROOMS + own] + company * (crowd[own] - 1);
            for (int room = 0; room < house.rooms; room++) {
                int door = own * MOST_ROOMS + room;
                if (gone[door] < wide[door] && crowd[room] < house.measure[room * MEASURES + SIZE]) {
                    int pull = taste[guest * MOST_ROOMS + room] + company * crowd[room];
                    if (pull > most) {
                        most = pull;
                        best = room;
                    }
                }
            }
            return best;
        }

        /** Answers how many went. */
        int minute() {
            Arrays.fill(gone, 0);
            int went = 0;
            for (int g = 0; g < MOST_GUESTS; g++) {
                if (house.isThere(g) && house.busy[g] == IDLE && moves(g)) {
                    went++;
                }
            }
            house.talkOn();
            return went;
        }

        private boolean moves(int guest) {
            int from = house.place[guest];
            int to = target(guest);
            if (to == from) {
                return false;
            }
            gone[from * MOST_ROOMS + to]++;
            gone[to * MOST_ROOMS + from]++;
            crowd[from]--;
            crowd[to]++;
            house.place[guest] = to;
            return true;
        }

        /** A MINUTE; true if nobody went, nobody having talked: then every later one is like it. */
        boolean stillMinute() {
            boolean talked = house.anyTalks();
            return minute() == 0 && !talked;
        }

        void run(int minutes) {
            for (int t = 0; t < minutes; t++) {
                if (stillMinute()) {
                    return;
                }
            }
        }

        int fullest() {
            int most = 0;
            for (int room = 0; room < house.rooms; room++) {
                most = Math.max(most, crowd[room]);
            }
            return most;
        }
    }

    /** The PAD, and which signs may follow which. */
    private static final class Pad {
        private static final int AT_START = 0;
        private static final int BEHIND_GUEST = 1;
        private static final int BEHIND_PAIR = 2;
        private static final int BEHIND_ROOM = 3;
        private static final int BEHIND_ROOMS = 4;
        private static final int WRONG = 5;

        int used;
        private final int[] signs = new int[MOST_SIGNS];

        boolean add(int sign) {
            if (used >= MOST_SIGNS) {
                return false;
            }
            signs[used] = sign;
            used++;
            return true;
        }

        int sign(int at) {
            return at >= 0 && at < used ? signs[at] : 0;
        }

        /** THE FAULT, where there are so many ROOMS; NONE. */
        int flaw(int rooms) {
            int step = AT_START;
            for (int at = 0; at < used; at++) {
                step = follow(step, at, rooms);
                if (step == WRONG) {
                    return at;
                }
            }
            return step == AT_START ? NONE : used;
        }

        private int follow(int step, int at, int rooms) {
            int sign = signs[at];
            switch (step) {
                case AT_START:
                    return followStart(sign, rooms);
                case BEHIND_GUEST:
                    return followGuest(sign, sign(at - 1), rooms);
                case BEHIND_PAIR:
                    return sign >= '1' && sign <= '9' ? AT_START : WRONG;
                case BEHIND_ROOM:
                    return isRoomLetter(sign, rooms) ? BEHIND_ROOMS : WRONG;
                default:
                    return sign >= '0' && sign <= '3' ? AT_START : WRONG;
            }
        }

        private static int followStart(int sign, int rooms) {
            if (sign == '.') {
                return AT_START;
            }
            if (isGuestLetter(sign)) {
                return BEHIND_GUEST;
            }
            return isRoomLetter(sign, rooms) ? BEHIND_ROOM : WRONG;
        }

        private static int followGuest(int sign, int guest, int rooms) {
            if (isGuestLetter(sign)) {
                return sign > guest ? BEHIND_PAIR : WRONG;
            }
            return sign == '_' || sign == '^' || isRoomLetter(sign, rooms) ? AT_START : WRONG;
        }

        static boolean isGuestLetter(int sign) {
            return sign >= 'A' && sign <= 'H';
        }

        private static boolean isRoomLetter(int sign, int rooms) {
            return sign >= 'a' && sign < 'a' + rooms;
        }
    }

    /** Plays a PARTY without FAULT, EVENT by EVENT, as far as it can be. */
    private static final class Play {
        /** How many EVENTS could be. */
        int events;
        /** Why the next one can not; 0 if there is no next one. */
        int why;

        void perform(Pad pad, House from, Drift drift) {
            drift.begin(from);
            events = 0;
            why = 0;
            int at = 0;
            for (int n = 0; n < MOST_SIGNS && at < pad.used; n++) {
                int span = spanOf(pad, at);
                if (span == 1) {
                    drift.ready();
                    drift.minute();
                } else {
                    why = attempt(pad, at, span, drift.house);
                }
                if (why != 0) {
                    return;
                }
                events++;
                at += span;
            }
        }

        private static int spanOf(Pad pad, int at) {
            if (pad.sign(at) == '.') {
                return 1;
            }
            boolean alone = Pad.isGuestLetter(pad.sign(at)) && !Pad.isGuestLetter(pad.sign(at + 1));
            return alone ? 2 : 3;
        }

        /** Answers why the EVENT can not be; 0 if it was. */
        private static int attempt(Pad pad, int at, int span, House house) {
            int first = pad.sign(at);
            int second = pad.sign(at + 1);
            if (span == 2) {
                return settle(house, first - 'A', second);
            }
            int digit = pad.sign(at + 2) - '0';
            if (Pad.isGuestLetter(first)) {
                return chat(house, first - 'A', second - 'A', digit);
            }
            return fetch(house, first - 'a', second - 'a', digit);
        }

        private static int chat(House house, int guest, int other, int minutes) {
            int why = house.whyNotTalk(guest, other);
            if (why == 0) {
                house.talk(guest, other, minutes);
            }
            return why;
        }

        private static int fetch(House house, int from, int to, int sort) {
            int why = house.whyNotCarry(from, to, sort);
            if (why == 0) {
                house.carry(from, to, sort);
            }
            return why;
        }

        private static int settle(House house, int guest, int sign) {
            int why;
            if (sign == '_') {
                why = house.whyNotSit(guest);
                if (why == 0) {
                    house.sit(guest);
                }
            } else if (sign == '^') {
                why = house.whyNotRise(guest);
                if (why == 0) {
                    house.rise(guest);
                }
            } else {
                why = house.whyNotBlock(guest, sign - 'a');
                if (why == 0) {
                    house.block(guest, sign - 'a');
                }
            }
            return why;
        }
    }

    /**
     * Counts RESTS. Who is content depends only on how many are in each ROOM, so the numbers
     * are told first, and then for each such telling the GUESTS are put.
     */
    private static final class Rest {
        int ways;
        private int first;
        private int members;
        private int rooms;
        private final int[] member = new int[MOST_AT_REST];
        private final int[] company = new int[MOST_AT_REST];
        private final int[] taste = new int[MOST_AT_REST * MOST_ROOMS];
        private final int[] content = new int[MOST_AT_REST];
        private final int[] size = new int[MOST_ROOMS];
        private final int[] fixed = new int[MOST_ROOMS];
        private final int[] share = new int[MOST_ROOMS];

        void find(House house, int set) {
            ways = 0;
            first = 0;
            members = 0;
            rooms = house.rooms;
            for (int g = 0; g < MOST_GUESTS; g++) {
                if (isIn(set, g) && members < MOST_AT_REST) {
                    enlist(house, g);
                }
            }
            for (int room = 0; room < rooms; room++) {
                size[room] = house.sizeOf(room);
                fixed[room] = Integer.bitCount(house.bitsIn(room) & ~set);
            }
            deal(0, members);
        }

        private void enlist(House house, int guest) {
            member[members] = guest;
            company[members] = house.likes[guest * LIKES + COMPANY];
            for (int room = 0; room < rooms; room++) {
                taste[members * MOST_ROOMS + room] = house.pullOfThings(guest, room);
            }
            members++;
        }

        /** Tells how many go to each ROOM from this one on. */
        private void deal(int room, int yet) {
            if (room >= rooms) {
                if (yet == 0) {
                    weigh();
                }
                return;
            }
            int most = Math.min(yet, size[room] - fixed[room]);
            for (int n = 0; n <= most; n++) {
                share[room] = n;
                deal(room + 1, yet - n);
            }
        }

        private void weigh() {
            for (int i = 0; i < members; i++) {
                content[i] = contentRooms(i);
                if (content[i] == 0) {
                    return;
                }
            }
            put(0, 0);
        }

        private int contentRooms(int i) {
            int bits = 0;
            for (int room = 0; room < rooms; room++) {
                if (share[room] > 0 && isContent(i, room)) {
                    bits |= 1 << room;
                }
            }
            return bits;
        }

        private boolean isContent(int i, int room) {
            int own = taste[i * MOST_ROOMS + room] + company[i] * (fixed[room] + share[room] - 1);
            for (int other = 0; other < rooms; other++) {
                int there = fixed[other] + share[other];
                boolean free = other != room && there < size[other];
                if (free && taste[i * MOST_ROOMS + other] + company[i] * there > own) {
                    return false;
                }
            }
            return true;
        }

        /** Puts the members from this one on; the ROOMS of those ahead of it are the digits of code. */
        private void put(int i, int code) {
            if (i >= members) {
                first = ways == 0 ? code : Math.min(first, code);
                ways++;
                return;
            }
            for (int room = 0; room < rooms; room++) {
                if ((content[i] >> room & 1) == 1 && share[room] > 0) {
                    share[room]--;
                    put(i + 1, code * 10 + room);
                    share[room]++;
                }
            }
        }

        int roomOf(int guest) {
            if (ways == 0) {
                return NONE;
            }
            int digits = first;
            for (int i = members - 1; i >= 0; i--) {
                if (member[i] == guest) {
                    return digits % 10;
                }
                digits /= 10;
            }
            return NONE;
        }
    }

    /** Ways to one ROOM from all: excuses, and DOORS where these are as few. */
    private static final class Route {
        private static final int EXCUSE = 100;
        private static final int NEVER = 1000000;

        private final int[] toll = new int[MOST_ROOMS];
        private final int[] far = new int[MOST_ROOMS];

        void measure(House house, int goal) {
            for (int room = 0; room < house.rooms; room++) {
                toll[room] = EXCUSE * house.count(room) + 1;
                far[room] = room == goal ? 0 : NEVER;
            }
            for (int turn = 0; turn < house.rooms; turn++) {
                for (int room = 0; room < house.rooms; room++) {
                    shorten(house, room);
                }
            }
        }

        private void shorten(House house, int room) {
            for (int next = 0; next < house.rooms; next++) {
                if (house.widthOf(room, next) > 0) {
                    far[room] = Math.min(far[room], toll[next] + far[next]);
                }
            }
        }

        int excusesFrom(int room) {
            return far[room] >= NEVER ? NONE : far[room] / EXCUSE;
        }

        /** The i-th ROOM on the way from one to the goal. */
        int step(House house, int from, int i) {
            if (i < 0 || i >= MOST_ROOMS || far[from] >= NEVER) {
                return NONE;
            }
            int room = from;
            for (int n = 0; n < i; n++) {
                if (far[room] == 0) {
                    return NONE;
                }
                room = follower(house, room);
            }
            return room;
        }

        private int follower(House house, int room) {
            for (int next = 0; next < house.rooms; next++) {
                if (house.widthOf(room, next) > 0 && toll[next] + far[next] == far[room]) {
                    return next;
                }
            }
            return room;
        }
    }

    /** One who is drunk: chances as whole numbers above one lower number that all ways share. */
    private static final class Stagger {
        /** 60 can be parted among 1 to 5 DOORS. */
        private static final int PARTS = 60;
        private static final int TENTHS = 10;
        private static final int MOST_STEPS = 1000;

        private long whole;
        private long[] chance = new long[MOST_ROOMS];
        private long[] next = new long[MOST_ROOMS];

        void walk(House house, int guest, int stays, int minutes) {
            Arrays.fill(chance, 0);
            chance[house.place[guest]] = 1;
            whole = 1;
            for (int t = 0; t < minutes; t++) {
                Arrays.fill(next, 0);
                for (int room = 0; room < house.rooms; room++) {
                    spread(house, room, stays);
                }
                long[] spent = chance;
                chance = next;
                next = spent;
                whole *= PARTS * TENTHS;
            }
        }

        private void spread(House house, int room, int stays) {
            int doors = 0;
            for (int other = 0; other < house.rooms; other++) {
                doors += house.widthOf(room, other) > 0 ? 1 : 0;
            }
            if (doors == 0) {
                next[room] += chance[room] * PARTS * TENTHS;
                return;
            }
            next[room] += chance[room] * PARTS * stays;
            for (int other = 0; other < house.rooms; other++) {
                if (house.widthOf(room, other) > 0) {
                    next[other] += chance[room] * (PARTS / doors) * (TENTHS - stays);
                }
            }
        }

        long upper(int room) {
            return chance[room] / shared(room);
        }

        long lower(int room) {
            return whole / shared(room);
        }

        private long shared(int room) {
            long a = whole;
            long b = chance[room];
            for (int n = 0; n < MOST_STEPS && b != 0; n++) {
                long over = a % b;
                a = b;
                b = over;
            }
            return a == 0 ? 1 : a;
        }
    }

    /** A YEAR by draws. */
    private static final class Year {
        int went;
        int talks;

        void pass(int seed, int minutes, Drift drift) {
            went = 0;
            talks = 0;
            int x = seed;
            for (int t = 0; t < minutes; t++) {
                x = (75 * x + 74) % 65537;
                meet(x, drift.house);
                went += drift.minute();
            }
        }

        private void meet(int x, House house) {
            int one = x % MOST_GUESTS;
            int other = x / 8 % MOST_GUESTS;
            if (one != other && house.whyNotTalk(one, other) == 0) {
                house.talk(one, other, 1 + x / 64 % 5);
                talks++;
            }
        }
    }
}
