import java.util.Random;

/**
 * Any arguments in any state: no call throws, each ends, and each answers what its promise can answer. Arguments are
 * all of a row of edges, in all their combinations; states are such as calls by chance (the same each time) lead to.
 * More than 512 calls are made on an object, because even then none may throw.
 */
public final class WildCalls {
    private static final Due D = new Due("WildCalls");
    private static final int[] EDGES = {Integer.MIN_VALUE, Integer.MIN_VALUE + 1, -1000, -7, -2, -1, 0, 1, 2, 3, 5, 6, 7,
        8, 9, 10, 11, 20, 21, 31, 32, 99, 100, 255, 256, 9999, 10000, 65536, Integer.MAX_VALUE - 1, Integer.MAX_VALUE};
    private static final int[] FEW = {Integer.MIN_VALUE, -2, -1, 0, 1, 3, 5, 6, 7, 8, 10, 11, 20, 21, Integer.MAX_VALUE};
    private static final String SIGNS = "ABCDEFGHABCDEFGHabcdefabcdef_^.09!~I@`g/:";

    private static String call = "";

    public static void main(String[] args) {
        try {
            for (int seed = 1; seed <= 30; seed++) {
                Random random = new Random(seed);
                KitchenDrift x = furnished(seed, random);
                for (int n = 0; n < 100; n++) {
                    change(x, random);
                }
                askAll(x);
            }
            everyChange();
        } catch (RuntimeException | Error thrown) {
            D.due(call + " threw " + thrown, 1, 0);
        }
        D.end();
    }

    private static KitchenDrift furnished(int seed, Random random) {
        KitchenDrift x = Due.come(Due.open(2 + seed % 5, 1 + seed % 3), 8, seed % 2);
        for (int room = 0; room < 6; room++) {
            for (int what = 0; what < 6; what++) {
                x.room(room, what, random.nextInt(10));
            }
        }
        for (int g = 0; g < 8; g++) {
            x.guest(g, random.nextInt(6));
            for (int sort = 0; sort < 5; sort++) {
                x.likes(g, sort, random.nextInt(7) - 3);
            }
        }
        return x;
    }

    private static int any(Random random) {
        return random.nextInt(10) == 0 ? EDGES[random.nextInt(EDGES.length)] : random.nextInt(9);
    }

    private static void change(KitchenDrift x, Random random) {
        int a = any(random), b = any(random), c = any(random);
        call = "a change of " + a + ", " + b + ", " + c;
        switch (random.nextInt(20)) {
            case 0: x.room(a, b, c); break;
            case 1: x.door(a, b, c); break;
            case 2: x.guest(a, b); break;
            case 3:
            case 4: x.likes(a, b, c - 4); break;
            case 5: x.seen(a, b); break;
            case 6: x.image(a % 3); break;
            case 7: seldom(x, a, b, random.nextInt(20)); break;
            default: party(x, random); break;
        }
    }

    private static void seldom(KitchenDrift x, int a, int b, int which) {
        switch (which) {
            case 0: x.rooms(a); break;
            case 1:
            case 2: x.leave(b); break;
            case 3:
            case 4: x.forget(); break;
            case 5: x.restore(a % 3); break;
            default: x.say(a + 60); break;
        }
    }

    /** One EVENT, or what looks like one. */
    private static void party(KitchenDrift x, Random random) {
        char guest = (char) ('A' + random.nextInt(8)), room = (char) ('a' + random.nextInt(6));
        char second = SIGNS.charAt(random.nextInt(SIGNS.length())), digit = (char) ('0' + random.nextInt(10));
        String[] events = {guest + "_", guest + "^", "" + guest + room, "" + guest + second + digit,
            "" + room + second + digit, ".", "" + second};
        x.wipe();
        for (char sign : events[random.nextInt(events.length)].toCharArray()) {
            x.say(sign);
        }
        x.done();
    }

    /** The answer is from lo to hi, or one of the refusals (as bits of their numbers, less 0), or NONE. */
    private static void within(String name, long answer, long lo, long hi, int refusals) {
        boolean refused = answer < 0 && answer >= -6 && (refusals >> -answer & 1) == 1;
        if (!refused && (answer < lo || answer > hi)) {
            D.due(call + " " + name + " can not answer so", answer, lo);
        }
    }

    private static final int UNKNOWN = 1 << 1, OUTSIDE = 1 << 2, STATE = 1 << 3, FULL = 1 << 4, NO = 1 << 5, NONE = 1 << 6;

    private static void askAll(KitchenDrift x) {
        call = "without arguments";
        within("fault", x.fault(), 0, 60, NONE);
        within("still", x.still(), 1, 99, NONE);
        within("round", x.round(), 1, 99, NONE);
        for (int a : EDGES) {
            askOne(x, a);
            for (int b : EDGES) {
                askTwo(x, a, b);
            }
        }
        for (int a : FEW) {
            for (int b : FEW) {
                for (int c : FEW) {
                    askMore(x, a, b, c);
                }
            }
        }
        D.due("all was asked", 0, 0);
    }

    private static void askOne(KitchenDrift x, int a) {
        call = "of " + a;
        within("judge", x.judge(a), 0, 59, OUTSIDE | NO | NONE);
        within("goes", x.goes(a), 0, 5, UNKNOWN | STATE);
        within("throng", x.throng(a), 0, 8, OUTSIDE);
        within("best", x.best(a), 0, 5, UNKNOWN);
        within("told", x.told(a), 0, 255, OUTSIDE);
    }

    private static void askTwo(KitchenDrift x, int a, int b) {
        call = "of " + a + ", " + b;
        within("state", x.state(a, b), 0, 9, UNKNOWN | OUTSIDE | NONE);
        within("behind", x.behind(a, b), 0, 9, UNKNOWN | OUTSIDE | NO | NONE);
        within("draw", x.draw(a, b), 871, 1129, UNKNOWN);
        within("after", x.after(a, b), 0, 5, UNKNOWN | OUTSIDE);
        within("crowd", x.crowd(a, b), 0, 255, UNKNOWN | OUTSIDE);
        within("carried", x.carried(a, b), 0, 653, OUTSIDE);
        within("hinges", x.hinges(a, b), 0, 45, OUTSIDE | NONE);
        within("rests", x.rests(a, b), 0, 46656, OUTSIDE | FULL | UNKNOWN | NONE);
        within("tastes", x.tastes(a, b), 0, 127, UNKNOWN | OUTSIDE);
    }

    private static void askMore(KitchenDrift x, int a, int b, int c) {
        call = "of " + a + ", " + b + ", " + c;
        within("excuses", x.excuses(a, b, c), 0, 7, UNKNOWN | NONE);
        within("year", x.year(a, b, c), 0, 99 * 8, OUTSIDE);
        for (int what : new int[] {Integer.MIN_VALUE, 0, 1, 2, Integer.MAX_VALUE}) {
            within("led", x.led(a, b, c, what), 0, 255, UNKNOWN | OUTSIDE | NONE);
            long upper = x.drunk(a, b, c, what, 0);
            boolean refused = upper == KitchenDrift.LOST - 1 || upper == KitchenDrift.LOST - 2;
            within("drunk", refused ? 0 : upper, 0, 46656000000000000L, 0);
            x.drunk(a, b, c, what, 2);
        }
    }

    /** Each call that changes something, by all edges, on one object after another. */
    private static void everyChange() {
        for (int a : EDGES) {
            call = "changes by " + a;
            KitchenDrift x = Due.flat();
            within("say", x.say(a), 1, 60, OUTSIDE | FULL);
            within("leave", x.leave(a), 0, 8, UNKNOWN);
            within("image", x.image(a), 1, 1, OUTSIDE);
            within("restore", x.restore(a), 1, 1, OUTSIDE | STATE);
            for (int b : EDGES) {
                call = "changes by " + a + ", " + b;
                x = Due.flat();
                within("guest", x.guest(a, b), 1, 8, UNKNOWN | FULL);
                within("seen", x.seen(a, b), 1, 6, UNKNOWN | FULL);
                for (int c : FEW) {
                    within("room", x.room(a, b, c), 0, 9, UNKNOWN | OUTSIDE | STATE);
                    within("door", x.door(a, b, c), 0, 3, UNKNOWN | OUTSIDE | STATE);
                    within("likes", x.likes(a, b, c), 7, 13, UNKNOWN | OUTSIDE);
                }
            }
            within("rooms", x.rooms(a), 2, 6, OUTSIDE);
        }
        D.due("all was changed", 0, 0);
    }
}
