/** Promises 28 to 35: sights, one who is drunk, years, images, what is told. */
public final class ChancesPromises {
    private static final Due D = new Due("ChancesPromises");
    private static final long LOST = -1000000000000000000L;

    public static void main(String[] args) {
        seen();
        forget();
        tastes();
        tastesBusy();
        drunk();
        drunkLong();
        year();
        yearTalks();
        image();
        restore();
        told();
        D.end();
    }

    private static void seen() {
        KitchenDrift x = new KitchenDrift();
        D.due("28 guest 8", x.seen(8, 0), Due.UNKNOWN);
        D.due("28 guest -1", x.seen(-1, 0), Due.UNKNOWN);
        D.due("28 room 3", x.seen(0, 3), Due.UNKNOWN);
        D.due("28 room -1", x.seen(0, -1), Due.UNKNOWN);
        for (int n = 1; n <= 6; n++) {
            D.due("28 one who is not there", x.seen(n, n % 3), n);
        }
        D.due("28 a seventh", x.seen(0, 0), Due.FULL);
        D.due("28 UNKNOWN ahead of FULL", x.seen(0, 3), Due.UNKNOWN);
        D.due("28 told", x.told(3), 6);
        x.guest(4, 0);
        x.guest(5, 0);
        x.guest(6, 0);
        D.due("28 E was seen to go to b", x.tastes(4, 0), 0);
        D.due("28 F was seen to go to c", x.tastes(5, 0), 0);
        D.due("28 G was seen to stay", x.tastes(6, 0), 127);
        x.guest(0, 0);
        D.due("28 A was not seen", x.tastes(0, 0), 127);
    }

    private static void forget() {
        KitchenDrift x = Due.flat();
        D.due("29 none", x.forget(), 0);
        x.seen(0, 2);
        x.seen(1, 2);
        D.due("29 before", x.tastes(0, 0), 0);
        D.due("29 two", x.forget(), 2);
        D.due("29 none", x.told(3), 0);
        D.due("29 after", x.tastes(0, 0), 127);
        D.due("29 from the first on", x.seen(0, 0), 1);
        D.due("29 B's are gone", x.tastes(1, 4), 127);
    }

    private static void tastes() {
        KitchenDrift x = Due.flat();
        D.due("30 not seen", x.tastes(0, 0), 127);
        x.seen(0, 0);
        D.due("30 to the kitchen: 1 to 3", x.tastes(0, 0), 112);
        D.due("30 as he likes drink", x.tastes(0, 1), 127);
        D.due("30 company -3 to 3: 10 is more", x.tastes(0, 4), 127);
        D.due("30 others are not seen", x.tastes(1, 0), 127);
        x.room(0, 0, 1);
        D.due("30 company to 1: 2 above", x.tastes(0, 4), 31);
        x.seen(0, 1);
        D.due("30 two that can not both be", x.tastes(0, 4), 0);
        x.forget();
        x.seen(0, 1);
        D.due("30 stays: company 2, 3", x.tastes(0, 4), 96);
        D.due("30 stays: -3 to 0", x.tastes(0, 0), 15);
        D.due("30 his likes stay", x.told(1000), 12);
        D.due("30 not there", x.tastes(3, 0), Due.UNKNOWN);
        D.due("30 guest 8, ahead of OUTSIDE", x.tastes(8, 5), Due.UNKNOWN);
        D.due("30 sort 5", x.tastes(0, 5), Due.OUTSIDE);
        D.due("30 sort -1", x.tastes(0, -1), Due.OUTSIDE);
        x.guest(1, 2);
        x.door(0, 1, 0);
        x.forget();
        x.seen(0, 2);
        D.due("30 to the others: company 1 to 3", x.tastes(0, 4), 112);
    }

    private static void tastesBusy() {
        KitchenDrift x = Due.flat();
        x.seen(0, 0);
        Due.doing(x, "AB9");
        D.due("30 he talks", x.tastes(0, 0), 112);
        Due.doing(x, "A^Aa");
        D.due("30 he jams the one door himself", x.tastes(0, 0), 0);
        x.door(0, 1, 2);
        D.due("30 it is wide enough", x.tastes(0, 0), 112);
        x.room(0, 4, 1);
        x.guest(6, 0);
        D.due("30 the room is full", x.tastes(0, 0), 0);
        x.forget();
        x.seen(0, 1);
        D.due("30 then he stays", x.tastes(0, 0), 127);
    }

    private static void fraction(String what, KitchenDrift x, int[] arguments, long upper, long lower) {
        int guest = arguments[0], room = arguments[1], c = arguments[2], m = arguments[3];
        D.due("31 upper, " + what, x.drunk(guest, room, c, m, 0), upper);
        D.due("31 lower, " + what, x.drunk(guest, room, c, m, 1), lower);
    }

    private static void drunk() {
        KitchenDrift x = Due.flat();
        fraction("now", x, new int[] {0, 1, 3, 0}, 1, 1);
        fraction("not there now", x, new int[] {0, 0, 3, 0}, 0, 1);
        fraction("one of two doors", x, new int[] {0, 0, 0, 1}, 1, 2);
        fraction("stays, half", x, new int[] {0, 1, 5, 1}, 1, 2);
        fraction("one of two doors, half", x, new int[] {0, 2, 5, 1}, 1, 4);
        fraction("there and back", x, new int[] {0, 1, 0, 6}, 1, 1);
        fraction("never stays", x, new int[] {0, 1, 0, 5}, 0, 1);
        fraction("ten tenths", x, new int[] {0, 1, 10, 6}, 1, 1);
        fraction("three tenths", x, new int[] {0, 0, 3, 1}, 7, 20);
        Due.doing(x, "Ba");
        x.room(0, 4, 1);
        x.guest(5, 0);
        fraction("jams, sizes not looked at", x, new int[] {0, 0, 0, 1}, 1, 2);
        KitchenDrift y = new KitchenDrift();
        y.guest(0, 2);
        fraction("no door", y, new int[] {0, 2, 0, 6}, 1, 1);
        fraction("no door", y, new int[] {0, 1, 0, 6}, 0, 1);
        D.due("31 not there", x.drunk(4, 0, 0, 0, 0), LOST - 1);
        D.due("31 room 3, ahead of OUTSIDE", x.drunk(0, 3, 11, 7, 2), LOST - 1);
        D.due("31 room -1", x.drunk(0, -1, 0, 0, 0), LOST - 1);
        D.due("31 c 11", x.drunk(0, 0, 11, 0, 0), LOST - 2);
        D.due("31 c -1", x.drunk(0, 0, -1, 0, 0), LOST - 2);
        D.due("31 m 7", x.drunk(0, 0, 0, 7, 0), LOST - 2);
        D.due("31 m -1", x.drunk(0, 0, 0, -1, 0), LOST - 2);
        D.due("31 part 2", x.drunk(0, 0, 0, 0, 2), LOST - 2);
        D.due("31 part -1", x.drunk(0, 0, 0, 0, -1), LOST - 2);
    }

    /** Six rooms, each with five doors: he is here again with a fifth of what he was elsewhere. */
    private static void drunkLong() {
        KitchenDrift x = new KitchenDrift();
        x.rooms(6);
        x.guest(0, 0);
        for (int room = 0; room < 6; room++) {
            for (int other = room + 1; other < 6; other++) {
                x.door(room, other, 1);
            }
        }
        long[] upper = {1, 0, 1, 4, 21, 104, 521};
        long[] lower = {1, 1, 5, 25, 125, 625, 3125};
        for (int m = 0; m <= 6; m++) {
            fraction("five doors, " + m, x, new int[] {0, 0, 0, m}, upper[m], lower[m]);
        }
        KitchenDrift y = new KitchenDrift();
        y.guest(0, 0);
        y.door(0, 1, 1);
        y.door(0, 2, 1);
        fraction("nine tenths, six minutes: 0.631072", y, new int[] {0, 0, 9, 6}, 19721, 31250);
    }

    private static void year() {
        KitchenDrift x = Due.flat();
        D.due("32 by none", new KitchenDrift().year(9999, 99, 0), 0);
        D.due("32 two go", x.year(0, 1, 0), 2);
        D.due("32 no talk", x.year(0, 1, 1), 0);
        D.due("32 one in the kitchen", x.year(0, 1, 2), 1);
        D.due("32 talks", x.year(77, 99, 1), 5);
        D.due("32 talks, asked again", x.year(77, 99, 1), 5);
        D.due("32 two go, asked again", x.year(0, 1, 0), 2);
        D.due("32 two go, asked again", x.year(0, 1, 0), 2);
        D.due("32 not done", x.state(0, 0), 1);
        D.due("32 seed -1", x.year(-1, 1, 0), Due.OUTSIDE);
        D.due("32 seed 10000", x.year(10000, 1, 0), Due.OUTSIDE);
        D.due("32 m 0", x.year(0, 0, 0), Due.OUTSIDE);
        D.due("32 m 100", x.year(0, 100, 0), Due.OUTSIDE);
        D.due("32 what -1", x.year(0, 1, -1), Due.OUTSIDE);
        D.due("32 what 3", x.year(0, 1, 3), Due.OUTSIDE);
    }

    /** From 0: 74 is C with B for 2; then 5624 is A with H for 3; then 28654 is G with F for 3. */
    private static void yearTalks() {
        KitchenDrift x = new KitchenDrift();
        for (int g = 0; g < 8; g++) {
            x.guest(g, 0);
        }
        D.due("32 C with B", x.year(0, 1, 1), 1);
        D.due("32 A with H", x.year(0, 2, 1), 2);
        D.due("32 G with F", x.year(0, 3, 1), 3);
        x.door(0, 1, 3);
        x.room(1, 0, 1);
        x.likes(1, 0, 1);
        D.due("32 B talks for two minutes", x.year(0, 2, 0), 0);
        D.due("32 then B goes", x.year(0, 3, 0), 1);
        D.due("32 seven are left", x.year(0, 3, 2), 7);
        D.due("32 from 5: 449 is B with A for three minutes", x.year(5, 3, 0), 0);
        D.due("32 from 5: then B goes", x.year(5, 4, 0), 1);
        x.leave(7);
        D.due("32 H is not there", x.year(0, 2, 1), 1);
        Due.doing(x, "Cb");
        D.due("32 C is busy", x.year(0, 2, 1), 0);
    }

    private static void image() {
        KitchenDrift x = Due.flat();
        D.due("33 n -1", x.image(-1), Due.OUTSIDE);
        D.due("33 n 2", x.image(2), Due.OUTSIDE);
        D.due("33 kept", x.image(0), 1);
        D.due("33 the other was not", x.restore(1), Due.STATE);
        x.leave(0);
        D.due("33 kept anew", x.image(0), 1);
        x.leave(1);
        x.restore(0);
        D.due("33 as it was then", x.told(2), 6);
    }

    private static void restore() {
        KitchenDrift x = Due.flat();
        x.room(1, 5, 2);
        x.seen(0, 1);
        Due.doing(x, "AB5.");
        x.image(1);
        Due.doing(x, "A^A_ab0.");
        x.door(1, 2, 0);
        x.likes(2, 3, -2);
        x.room(2, 4, 9);
        x.seen(3, 1);
        x.image(0);
        x.rooms(5);
        Due.write(x, "...");
        D.due("34 n 2", x.restore(2), Due.OUTSIDE);
        D.due("34 n -1", x.restore(-1), Due.OUTSIDE);
        D.due("34 the first", x.restore(1), 1);
        D.due("34 rooms", x.told(1), 3);
        D.due("34 guests", x.told(2), 7);
        D.due("34 talks", x.state(0, 1), 1);
        D.due("34 yet", x.state(1, 3), 4);
        D.due("34 things", x.told(10), 5);
        D.due("34 door", x.told(202), 2);
        D.due("34 likes", x.told(3003), 10);
        D.due("34 size", x.told(34), 8);
        D.due("34 chairs", x.told(25), 2);
        D.due("34 sights", x.told(3), 1);
        D.due("34 whom: A has been seen to stay", x.tastes(0, 0), 15);
        D.due("34 the pad stays", x.told(0), 3);
        D.due("34 the second", x.restore(0), 1);
        D.due("34 sits", x.state(0, 1), 2);
        D.due("34 things", x.told(10), 4);
        D.due("34 likes", x.told(3003), 8);
        D.due("34 sights", x.told(3), 2);
        x.leave(2);
        D.due("34 the image does not change", x.restore(0), 1);
        D.due("34 the image does not change", x.told(2), 7);
        D.due("34 again the first", x.restore(1), 1);
        D.due("34 again the first", x.state(0, 3), 4);
    }

    private static void told() {
        KitchenDrift x = Due.flat();
        x.seen(0, 0);
        Due.write(x, "A_");
        D.due("35 signs", x.told(0), 2);
        D.due("35 rooms", x.told(1), 3);
        D.due("35 guests", x.told(2), 7);
        D.due("35 sights", x.told(3), 1);
        D.due("35 drinks", x.told(10), 5);
        D.due("35 size", x.told(34), 8);
        D.due("35 chairs", x.told(35), 0);
        D.due("35 width", x.told(101), 1);
        D.due("35 width", x.told(301), 2);
        D.due("35 no door", x.told(300), 0);
        D.due("35 likes", x.told(1000), 12);
        D.due("35 company", x.told(2004), 13);
        for (int what : new int[] {-1, 4, 5, 9, 16, 19, 36, 40, 99, 100, 103, 201, 302, 303, 400, 110, 199, 999,
            1005, 1010, 3005, 4000, 8000, 9000, -1000, 10000, Integer.MAX_VALUE, Integer.MIN_VALUE}) {
            D.due("35 told(" + what + ")", x.told(what), Due.OUTSIDE);
        }
        x.rooms(6);
        x.guest(7, 5);
        x.room(5, 5, 9);
        x.door(5, 4, 3);
        x.likes(7, 4, -3);
        D.due("35 the last room", x.told(65), 9);
        D.due("35 the last door", x.told(604), 3);
        D.due("35 the last guest", x.told(8004), 7);
        D.due("35 the last guest's bit", x.told(2), 128);
        D.due("35 none behind", x.told(66), Due.OUTSIDE);
        D.due("35 none behind", x.told(606), Due.OUTSIDE);
        D.due("35 none behind", x.told(70), Due.OUTSIDE);
        D.due("35 none behind", x.told(700), Due.OUTSIDE);
    }
}
