import java.math.BigInteger;

/** Promises 28 to 35 at the edges that their sentences and the Terms name: a test each. */
public final class ChancesEdges {
    private static final Due D = new Due("ChancesEdges");
    private static final int LEAST = Integer.MIN_VALUE, MOST = Integer.MAX_VALUE;
    private static final long LOST = -1000000000000000000L;

    public static void main(String[] args) {
        seenRefused();
        seenSixOfThem();
        seenOfOneNotThere();
        forgetNoneAndAll();
        tastesRefused();
        tastesWithoutSights();
        tastesAtBothEnds();
        tastesOfCompanyAtBothEnds();
        tastesThatContradict();
        tastesBusyOrNot();
        tastesOfOneInTheDoor();
        tastesChangeNothing();
        drunkRefused();
        drunkForNoTime();
        drunkAlwaysOrNeverStays();
        drunkWithoutDoors();
        drunkInAll();
        yearRefused();
        yearOfOneMinute();
        yearOfNobody();
        yearOfTalks();
        yearChangesNothing();
        imageRefused();
        restoreRefused();
        imagesAreTwo();
        imageKeepsWhatIsBusy();
        imageKeepsSights();
        imageLeavesThePad();
        imageOfOtherRooms();
        toldEachNumber();
        toldOfTheFewest();
        theLastCall();
        D.end();
    }

    // ---- promises 28 and 29

    private static void seenRefused() {
        KitchenDrift x = new KitchenDrift();
        for (int guest : new int[] {-1, 8, 32, LEAST, MOST}) {
            D.due("28 guest " + guest, x.seen(guest, 0), Due.UNKNOWN);
        }
        for (int room : new int[] {-1, 3, 6, LEAST, MOST}) {
            D.due("28 room " + room, x.seen(0, room), Due.UNKNOWN);
        }
        D.due("28 nothing was seen", x.told(3), 0);
        D.due("28 the first guest, the first room", x.seen(0, 0), 1);
        D.due("28 the last guest, the last room", x.seen(7, 2), 2);
    }

    private static void seenSixOfThem() {
        KitchenDrift x = new KitchenDrift();
        for (int n = 1; n <= 6; n++) {
            D.due("28 so many", x.seen(0, 0), n);
        }
        D.due("28 a seventh", x.seen(1, 1), Due.FULL);
        D.due("28 no guest, ahead of FULL", x.seen(8, 0), Due.UNKNOWN);
        D.due("28 no room, ahead of FULL", x.seen(0, 3), Due.UNKNOWN);
        D.due("28 six it stays", x.told(3), 6);
        x.guest(1, 0);
        D.due("28 the seventh is not looked at", x.tastes(1, 0), 127);
    }

    private static void seenOfOneNotThere() {
        KitchenDrift x = new KitchenDrift();
        D.due("28 he is not there", x.seen(3, 1), 1);
        D.due("28 his tastes are not known yet", x.tastes(3, 0), Due.UNKNOWN);
        x.guest(3, 0);
        D.due("28 he came, and can not go to b", x.tastes(3, 0), 0);
        x.guest(3, 1);
        D.due("28 he came anew, and stays in b", x.tastes(3, 0), 127);
        x.leave(3);
        D.due("28 he left: it was seen yet", x.told(3), 1);
    }

    private static void forgetNoneAndAll() {
        KitchenDrift x = new KitchenDrift();
        D.due("29 none", x.forget(), 0);
        for (int n = 0; n < 7; n++) {
            x.seen(n, 1);
        }
        D.due("29 six", x.forget(), 6);
        D.due("29 none now", x.forget(), 0);
        x.guest(0, 0);
        D.due("29 what was seen holds no more", x.tastes(0, 0), 127);
        D.due("29 the first again", x.seen(7, 0), 1);
        D.due("29 an old one does not come back", x.tastes(0, 0), 127);
    }

    // ---- promise 30

    private static void tastesRefused() {
        KitchenDrift x = Due.flat();
        for (int guest : new int[] {-1, 3, 8, 32, LEAST, MOST}) {
            D.due("30 guest " + guest, x.tastes(guest, 0), Due.UNKNOWN);
            D.due("30 guest " + guest + " ahead of OUTSIDE", x.tastes(guest, 5), Due.UNKNOWN);
        }
        for (int sort : new int[] {-1, 5, 6, LEAST, MOST}) {
            D.due("30 sort " + sort, x.tastes(0, sort), Due.OUTSIDE);
        }
    }

    private static void tastesWithoutSights() {
        KitchenDrift x = Due.flat();
        for (int sort = 0; sort < 5; sort++) {
            D.due("30 nothing was seen", x.tastes(0, sort), 127);
        }
        x.seen(1, 0);
        for (int sort = 0; sort < 5; sort++) {
            D.due("30 nothing was seen of him", x.tastes(0, sort), 127);
        }
    }

    /** He is in a; by another SORT b is worth two less to him, or two more. */
    private static void tastesAtBothEnds() {
        for (int sort = 0; sort < 4; sort++) {
            int another = (sort + 1) % 4;
            KitchenDrift x = Due.open(2, 1);
            x.guest(0, 0);
            x.likes(0, another, 1);
            x.room(0, another, 2);
            x.room(1, sort, 1);
            x.seen(0, 1);
            D.due("30 he went, so it is 3", x.tastes(0, sort), 64);
            x.room(0, another, 3);
            D.due("30 he went, which no number tells", x.tastes(0, sort), 0);
            x.room(0, another, 0);
            x.room(1, another, 2);
            D.due("30 he went, so it is -1 to 3", x.tastes(0, sort), 124);
            x.forget();
            x.seen(0, 0);
            D.due("30 he stayed, so it is -3 or -2", x.tastes(0, sort), 3);
            x.room(1, another, 3);
            D.due("30 he stayed, so it is -3", x.tastes(0, sort), 1);
            x.room(1, another, 4);
            D.due("30 he stayed, which no number tells", x.tastes(0, sort), 0);
        }
    }

    private static void tastesOfCompanyAtBothEnds() {
        KitchenDrift x = Due.open(3, 1);
        x.guest(0, 0);
        x.guest(1, 1);
        x.likes(0, 0, 1);
        x.room(0, 0, 2);
        x.room(2, 0, 2);
        x.seen(0, 1);
        D.due("30 he went to B, so it is 3", x.tastes(0, 4), 64);
        x.guest(2, 1);
        D.due("30 he went to B and C, so it is 2 or 3", x.tastes(0, 4), 96);
        x.forget();
        x.guest(1, 0);
        x.guest(2, 2);
        x.room(0, 0, 5);
        x.room(1, 0, 3);
        x.seen(0, 1);
        D.due("30 he went from B to where nobody is, so it is -3", x.tastes(0, 4), 1);
    }

    private static void tastesThatContradict() {
        KitchenDrift x = Due.open(2, 1);
        x.guest(0, 0);
        x.room(1, 0, 1);
        x.seen(0, 1);
        D.due("30 he went", x.tastes(0, 0), 112);
        for (int n = 0; n < 4; n++) {
            x.seen(0, 1);
        }
        D.due("30 he went, seen five times", x.tastes(0, 0), 112);
        D.due("30 and stayed", x.seen(0, 0), 6);
        D.due("30 both can not be", x.tastes(0, 0), 0);
    }

    private static void tastesBusyOrNot() {
        for (String busy : new String[] {"", "AB9", "A_", "Ac"}) {
            KitchenDrift x = Due.come(Due.open(3, 1), 2, 0);
            x.room(0, 5, 1);
            x.room(1, 0, 1);
            x.seen(0, 1);
            Due.doing(x, busy);
            D.due("30 busy by " + busy, x.tastes(0, 0), 112);
        }
        KitchenDrift x = Due.come(Due.open(3, 1), 2, 0);
        x.room(1, 0, 1);
        x.seen(0, 1);
        Due.doing(x, "Bb");
        D.due("30 B jams the door", x.tastes(0, 0), 0);
        x.door(0, 1, 2);
        D.due("30 B jams it, it is wide", x.tastes(0, 0), 112);
        x.room(1, 4, 1);
        x.guest(2, 1);
        D.due("30 the room is full", x.tastes(0, 0), 0);
    }

    /** All else being as it is, he who stands in the DOOR jams it for himself, too. */
    private static void tastesOfOneInTheDoor() {
        KitchenDrift x = Due.open(2, 1);
        x.guest(0, 0);
        x.room(1, 0, 1);
        x.seen(0, 1);
        Due.doing(x, "Ab");
        D.due("30 he jams the door himself", x.tastes(0, 0), 0);
        x.door(0, 1, 2);
        D.due("30 he jams it himself, it is wide", x.tastes(0, 0), 112);
        x.door(0, 1, 1);
        Due.doing(x, "A^");
        D.due("30 he stepped out", x.tastes(0, 0), 112);
    }

    private static void tastesChangeNothing() {
        KitchenDrift x = Due.flat();
        x.likes(0, 2, -2);
        x.seen(0, 0);
        for (int sort = 0; sort < 5; sort++) {
            x.tastes(0, sort);
        }
        int[] likes = {12, 10, 8, 10, 10};
        for (int sort = 0; sort < 5; sort++) {
            D.due("30 his likes stay", x.told(1000 + sort), likes[sort]);
        }
        D.due("30 what was seen stays", x.told(3), 1);
    }

    // ---- promise 31

    private static void drunkRefused() {
        KitchenDrift x = Due.flat();
        for (int guest : new int[] {-1, 3, 8, 32, LEAST, MOST}) {
            D.due("31 guest " + guest, x.drunk(guest, 0, 0, 0, 0), LOST - 1);
            D.due("31 guest " + guest + " ahead of OUTSIDE", x.drunk(guest, 0, 11, 7, 2), LOST - 1);
        }
        for (int room : new int[] {-1, 3, 6, LEAST, MOST}) {
            D.due("31 room " + room, x.drunk(0, room, 0, 0, 0), LOST - 1);
            D.due("31 room " + room + " ahead of OUTSIDE", x.drunk(0, room, -1, -1, -1), LOST - 1);
        }
        for (int c : new int[] {-1, 11, LEAST, MOST}) {
            D.due("31 c " + c, x.drunk(0, 0, c, 0, 0), LOST - 2);
        }
        for (int m : new int[] {-1, 7, LEAST, MOST}) {
            D.due("31 m " + m, x.drunk(0, 0, 0, m, 0), LOST - 2);
        }
        for (int part : new int[] {-1, 2, LEAST, MOST}) {
            D.due("31 part " + part, x.drunk(0, 0, 0, 0, part), LOST - 2);
        }
    }

    private static void fraction(String what, KitchenDrift x, int room, int[] time, long[] due) {
        for (int part = 0; part < 2; part++) {
            D.due("31 " + what + ", part " + part, x.drunk(0, room, time[0], time[1], part), due[part]);
        }
    }

    private static void drunkForNoTime() {
        KitchenDrift x = Due.flat();
        for (int c = 0; c <= 10; c++) {
            fraction("no time, where he is", x, 1, new int[] {c, 0}, new long[] {1, 1});
            fraction("no time, elsewhere", x, 2, new int[] {c, 0}, new long[] {0, 1});
        }
    }

    private static void drunkAlwaysOrNeverStays() {
        KitchenDrift x = Due.open(2, 1);
        x.guest(0, 0);
        for (int m = 0; m <= 6; m++) {
            fraction("ten tenths", x, 0, new int[] {10, m}, new long[] {1, 1});
            fraction("ten tenths, elsewhere", x, 1, new int[] {10, m}, new long[] {0, 1});
            fraction("none, to and fro", x, m % 2, new int[] {0, m}, new long[] {1, 1});
            fraction("none, to and fro, elsewhere", x, 1 - m % 2, new int[] {0, m}, new long[] {0, 1});
        }
        for (int c = 1; c <= 9; c++) {
            int shared = c % 5 == 0 ? 5 : c % 2 == 0 ? 2 : 1;
            fraction("tenths in lowest terms", x, 0, new int[] {c, 1}, new long[] {c / shared, 10 / shared});
        }
        fraction("nine tenths, six minutes: 1 and 0.8 six times, halved", x, 0, new int[] {9, 6}, new long[] {19721, 31250});
    }

    private static void drunkWithoutDoors() {
        KitchenDrift x = new KitchenDrift();
        x.rooms(6);
        x.guest(0, 5);
        x.door(0, 1, 3);
        for (int c = 0; c <= 10; c += 5) {
            fraction("no door of his room", x, 5, new int[] {c, 6}, new long[] {1, 1});
            fraction("no door of his room, elsewhere", x, 0, new int[] {c, 6}, new long[] {0, 1});
        }
    }

    /** Wherever he is, it is in one of the ROOMS; and each chance is in lowest terms. */
    private static void drunkInAll() {
        String[] doors = {"12", "0112233445", "010203040512131415", "0102121345"};
        for (String pairs : doors) {
            KitchenDrift x = new KitchenDrift();
            x.rooms(6);
            x.guest(0, 1);
            for (int n = 0; n < pairs.length(); n += 2) {
                x.door(pairs.charAt(n) - '0', pairs.charAt(n + 1) - '0', 1);
            }
            for (int c : new int[] {0, 1, 3, 7, 10}) {
                BigInteger upper = BigInteger.ZERO, lower = BigInteger.ONE;
                for (int room = 0; room < 6; room++) {
                    BigInteger a = BigInteger.valueOf(x.drunk(0, room, c, 6, 0));
                    BigInteger b = BigInteger.valueOf(x.drunk(0, room, c, 6, 1));
                    D.due("31 in lowest terms", a.gcd(b).longValue(), 1);
                    upper = upper.multiply(b).add(a.multiply(lower));
                    lower = lower.multiply(b);
                }
                D.due("31 all in all it is one", upper.compareTo(lower), 0);
            }
        }
    }

    // ---- promise 32

    private static void yearRefused() {
        KitchenDrift x = Due.flat();
        for (int seed : new int[] {-1, 10000, LEAST, MOST}) {
            D.due("32 seed " + seed, x.year(seed, 1, 0), Due.OUTSIDE);
        }
        for (int m : new int[] {0, -1, 100, LEAST, MOST}) {
            D.due("32 m " + m, x.year(0, m, 0), Due.OUTSIDE);
        }
        for (int what : new int[] {-1, 3, LEAST, MOST}) {
            D.due("32 what " + what, x.year(0, 1, what), Due.OUTSIDE);
        }
    }

    private static void yearOfOneMinute() {
        KitchenDrift x = Due.flat();
        D.due("32 A to a, B to c", x.year(0, 1, 0), 2);
        D.due("32 no talk: 74 is B with C, apart", x.year(0, 1, 1), 0);
        D.due("32 A in a", x.year(0, 1, 2), 1);
        x.guest(2, 1);
        D.due("32 74 is B with C, together", x.year(0, 1, 1), 1);
        D.due("32 A alone goes", x.year(0, 1, 0), 1);
        KitchenDrift y = Due.come(new KitchenDrift(), 8, 0);
        D.due("32 from 9999: 29092 is E with E, no talk", y.year(9999, 1, 1), 0);
        D.due("32 from 1: 149 is F with C", y.year(1, 1, 1), 1);
        y.leave(5);
        D.due("32 from 1: F is not there", y.year(1, 1, 1), 0);
    }

    private static void yearOfNobody() {
        KitchenDrift x = Due.open(6, 3);
        for (int what = 0; what < 3; what++) {
            D.due("32 nobody", x.year(9999, 99, what), 0);
        }
        Due.come(x, 8, 5);
        D.due("32 nobody in a", x.year(0, 99, 2), 0);
        x.guest(0, 0);
        D.due("32 one in a", x.year(0, 99, 2), 1);
    }

    /** All in one ROOM and nobody goes: who talks is told by the draws alone. */
    private static int talks(int seed, int minutes) {
        int[] free = new int[8];
        long x = seed;
        int talks = 0;
        for (int t = 0; t < minutes; t++) {
            x = (75 * x + 74) % 65537;
            int one = (int) (x % 8), other = (int) (x / 8 % 8);
            if (one != other && free[one] <= t && free[other] <= t) {
                free[one] = free[other] = t + 1 + (int) (x / 64 % 5);
                talks++;
            }
        }
        return talks;
    }

    private static void yearOfTalks() {
        KitchenDrift x = Due.come(new KitchenDrift(), 8, 2);
        int[] seeds = {0, 1, 77, 1234, 4999, 5000, 8191, 9998, 9999};
        for (int seed : seeds) {
            for (int m : new int[] {1, 2, 3, 5, 8, 13, 50, 98, 99}) {
                D.due("32 talks from " + seed + " in " + m, x.year(seed, m, 1), talks(seed, m));
                D.due("32 nobody goes", x.year(seed, m, 0), 0);
            }
        }
    }

    private static void yearChangesNothing() {
        KitchenDrift x = Due.come(Due.open(2, 3), 8, 0);
        x.room(1, 0, 1);
        x.likes(0, 0, 1);
        x.year(5, 99, 0);
        D.due("32 nobody went in fact", x.crowd(0, 0), 255);
        D.due("32 nobody talks in fact", x.state(0, 1) + x.state(1, 1) + x.state(2, 1), 0);
        Due.doing(x, "AB9");
        D.due("32 who talks already talks on", x.year(5, 9, 0), 0);
        D.due("32 who talks already goes then", x.year(5, 99, 0), 1);
        D.due("32 he talks yet", x.state(0, 3), 9);
    }

    // ---- promises 33 and 34

    private static void imageRefused() {
        KitchenDrift x = Due.flat();
        for (int n : new int[] {-1, 2, 256, LEAST, MOST}) {
            D.due("33 image(" + n + ")", x.image(n), Due.OUTSIDE);
            D.due("34 restore(" + n + ")", x.restore(n), Due.OUTSIDE);
        }
    }

    private static void restoreRefused() {
        for (int n = 0; n < 2; n++) {
            KitchenDrift x = Due.flat();
            D.due("34 it was not kept", x.restore(n), Due.STATE);
            D.due("34 nothing is changed", x.told(2), 7);
            x.image(n);
            D.due("34 the other was not kept", x.restore(1 - n), Due.STATE);
            D.due("34 it was kept", x.restore(n), 1);
            D.due("34 again", x.restore(n), 1);
        }
    }

    private static void imagesAreTwo() {
        KitchenDrift x = new KitchenDrift();
        x.guest(0, 0);
        x.image(0);
        x.guest(1, 1);
        x.image(1);
        x.guest(2, 2);
        D.due("34 the first", x.restore(0) * 10 + x.told(2), 11);
        D.due("34 the second", x.restore(1) * 10 + x.told(2), 13);
        D.due("34 the first again", x.restore(0) * 10 + x.told(2), 11);
        x.leave(0);
        D.due("33 kept anew", x.image(0), 1);
        x.guest(7, 0);
        D.due("34 as it was then", x.restore(0) * 10 + x.told(2), 10);
        D.due("34 the second is as it was", x.restore(1) * 10 + x.told(2), 13);
        x.leave(1);
        D.due("34 what is changed then is not kept", x.restore(1) * 10 + x.told(2), 13);
    }

    private static void imageKeepsWhatIsBusy() {
        KitchenDrift x = Due.come(Due.open(3, 1), 8, 2);
        x.room(2, 5, 1);
        Due.doing(x, "AB9.C_Da");
        x.image(1);
        Due.doing(x, "A^C^D^");
        x.guest(7, 0);
        x.restore(1);
        int[][] due = {{2, 1, 1, 8}, {2, 1, 0, 8}, {2, 2, Due.NONE, 0}, {2, 3, 0, 0}, {2, 0, Due.NONE, 0}};
        for (int g = 0; g < 5; g++) {
            for (int what = 0; what < 4; what++) {
                D.due("34 guest " + g + ", " + what, x.state(g, what), due[g][what]);
            }
        }
        D.due("34 H is back", x.state(7, 0), 2);
        D.due("34 no chair is free", Due.judged(x, "E_"), 4);
        D.due("34 the door is jammed", x.door(0, 2, 0), Due.STATE);
        D.due("34 B is with A", Due.judged(x, "B^A_"), 14);
    }

    private static void imageKeepsSights() {
        KitchenDrift x = Due.open(3, 1);
        x.guest(0, 0);
        x.room(1, 0, 1);
        x.room(2, 1, 1);
        x.seen(0, 1);
        x.image(0);
        x.forget();
        x.seen(0, 2);
        x.seen(1, 2);
        x.image(1);
        x.forget();
        x.seen(7, 0);
        x.restore(0);
        D.due("34 one was seen", x.told(3), 1);
        D.due("34 to go to b", x.tastes(0, 0), 112);
        D.due("34 not to c", x.tastes(0, 1), 0);
        x.restore(1);
        D.due("34 two were seen", x.told(3), 2);
        D.due("34 to go to c", x.tastes(0, 1), 112);
        D.due("34 not to b", x.tastes(0, 0), 0);
    }

    private static void imageLeavesThePad() {
        KitchenDrift x = Due.flat();
        Due.write(x, "A?");
        x.image(0);
        D.due("33 the pad stays", x.told(0), 2);
        Due.write(x, "...");
        x.restore(0);
        D.due("34 the pad stays", x.told(0), 3);
        D.due("34 as it stands now", x.fault(), Due.NONE);
        x.wipe();
        x.restore(0);
        D.due("34 it stays empty", x.told(0), 0);
    }

    private static void imageOfOtherRooms() {
        KitchenDrift x = Due.open(6, 2);
        x.room(5, 5, 9);
        x.guest(3, 5);
        x.image(0);
        x.rooms(2);
        x.image(1);
        D.due("34 six rooms again", x.restore(0) * 10 + x.told(1), 16);
        D.due("34 the last door", x.told(604), 2);
        D.due("34 the last room", x.told(65), 9);
        D.due("34 he is there", x.state(3, 0), 5);
        D.due("34 two rooms again", x.restore(1) * 10 + x.told(1), 12);
        D.due("34 no sixth", x.told(65), Due.OUTSIDE);
        D.due("34 nobody", x.told(2), 0);
    }

    // ---- promise 35

    private static int thing(int room, int what) {
        return what == 4 ? 9 - room : (room * 3 + what * 2) % 10;
    }

    private static int width(int room, int other) {
        return (Math.min(room, other) + 2 * Math.max(room, other)) % 4;
    }

    private static int like(int guest, int sort) {
        return (guest * 2 + sort * 3) % 7 - 3;
    }

    private static KitchenDrift full() {
        KitchenDrift x = new KitchenDrift();
        x.rooms(6);
        for (int room = 0; room < 6; room++) {
            for (int what = 0; what < 6; what++) {
                x.room(room, what, thing(room, what));
            }
            for (int other = 0; other < room; other++) {
                x.door(room, other, width(room, other));
            }
        }
        for (int g = 0; g < 8; g++) {
            if (g != 4) {
                x.guest(g, g % 3);
                for (int sort = 0; sort < 5; sort++) {
                    x.likes(g, sort, like(g, sort));
                }
            }
        }
        x.seen(0, 0);
        x.seen(1, 0);
        return Due.write(x, "A_B");
    }

    /** What each number tells of the full house; OUTSIDE, if it tells nothing. */
    private static int dueOf(int what) {
        int[] few = {3, 6, 255 - 16, 2};
        if (what >= 0 && what <= 3) {
            return few[what];
        }
        for (int room = 0; room < 6; room++) {
            for (int n = 0; n < 6; n++) {
                if (what == 10 * (1 + room) + n) {
                    return thing(room, n);
                }
                if (what == 100 * (1 + room) + n && n != room) {
                    return width(room, n);
                }
            }
        }
        for (int g = 0; g < 8; g++) {
            for (int sort = 0; sort < 5; sort++) {
                if (what == 1000 * (1 + g) + sort && g != 4) {
                    return like(g, sort) + 10;
                }
            }
        }
        return Due.OUTSIDE;
    }

    /** Each number from -50 to 10099, on new objects, because one is used for 512 calls at most. */
    private static void toldEachNumber() {
        for (int from = -50; from < 10100; from += 350) {
            KitchenDrift x = full();
            for (int what = from; what < from + 350; what++) {
                D.due("35 told(" + what + ")", x.told(what), dueOf(what));
            }
        }
        for (int what : new int[] {LEAST, LEAST + 1, -1000, 65536, 65546, 100000, MOST}) {
            D.due("35 told(" + what + ")", full().told(what), Due.OUTSIDE);
        }
    }

    private static void toldOfTheFewest() {
        KitchenDrift x = new KitchenDrift();
        x.rooms(2);
        D.due("35 no signs", x.told(0), 0);
        D.due("35 two rooms", x.told(1), 2);
        D.due("35 nobody", x.told(2), 0);
        D.due("35 no sights", x.told(3), 0);
        D.due("35 the second room", x.told(25), 0);
        D.due("35 no third", x.told(30), Due.OUTSIDE);
        D.due("35 the one door", x.told(200), 0);
        D.due("35 no third", x.told(102), Due.OUTSIDE);
        D.due("35 no third", x.told(300), Due.OUTSIDE);
        D.due("35 nobody's likes", x.told(1000), Due.OUTSIDE);
        x.guest(0, 0);
        D.due("35 his likes", x.told(1000), 10);
        x.leave(0);
        D.due("35 he left", x.told(1000), Due.OUTSIDE);
    }

    /** What is promised of the first call is promised of the 512th. */
    private static void theLastCall() {
        KitchenDrift x = new KitchenDrift();
        for (int n = 0; n < 255; n++) {
            x.guest(n % 8, n % 3);
            x.likes(n % 8, n % 5, n % 7 - 3);
        }
        D.due("the 511th call", x.leave(7), 7);
        D.due("the 512th call", x.told(2), 127);
    }
}
