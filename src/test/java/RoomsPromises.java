/** Promises 1 to 10: rooms, guests, the PAD. */
public final class RoomsPromises {
    private static final Due D = new Due("RoomsPromises");

    public static void main(String[] args) {
        newObject();
        constants();
        rooms();
        room();
        door();
        guest();
        likes();
        leave();
        say();
        wipe();
        fault();
        D.end();
    }

    private static void newObject() {
        KitchenDrift x = new KitchenDrift();
        D.due("1 rooms", x.told(1), 3);
        D.due("1 guests", x.told(2), 0);
        D.due("1 signs", x.told(0), 0);
        D.due("1 sights", x.told(3), 0);
        for (int room = 0; room < 3; room++) {
            for (int what = 0; what < 6; what++) {
                D.due("1 measure " + what, x.told(10 * (1 + room) + what), what == 4 ? 8 : 0);
            }
            for (int other = 0; other < 3; other++) {
                D.due("1 door", x.told(100 * (1 + room) + other), room == other ? Due.OUTSIDE : 0);
            }
        }
        D.due("1 a fourth room", x.told(40), Due.OUTSIDE);
        D.due("1 image 0", x.restore(0), Due.STATE);
        D.due("1 image 1", x.restore(1), Due.STATE);
    }

    private static void constants() {
        D.due("NONE", KitchenDrift.NONE, -6);
        D.due("UNKNOWN", KitchenDrift.UNKNOWN, -1);
        D.due("OUTSIDE", KitchenDrift.OUTSIDE, -2);
        D.due("STATE", KitchenDrift.STATE, -3);
        D.due("FULL", KitchenDrift.FULL, -4);
        D.due("NO", KitchenDrift.NO, -5);
        D.due("LOST", KitchenDrift.LOST, -1000000000000000000L);
    }

    private static void rooms() {
        KitchenDrift x = Due.flat();
        x.room(1, 4, 5);
        x.room(1, 5, 2);
        x.seen(0, 0);
        x.image(1);
        Due.write(x, "A_");
        for (int n : new int[] {1, 7, 0, -1, Integer.MIN_VALUE, Integer.MAX_VALUE}) {
            D.due("2 rooms(" + n + ")", x.rooms(n), Due.OUTSIDE);
        }
        D.due("2 refused, guests stay", x.told(2), 7);
        D.due("2 which it was", x.rooms(6), 3);
        D.due("2 how many", x.told(1), 6);
        D.due("2 guests go", x.told(2), 0);
        D.due("2 sights go", x.told(3), 0);
        D.due("2 things go", x.told(10), 0);
        D.due("2 size as at first", x.told(24), 8);
        D.due("2 chairs go", x.told(25), 0);
        D.due("2 doors go", x.told(201), Due.OUTSIDE);
        D.due("2 doors go", x.told(202), 0);
        D.due("2 the pad stays", x.told(0), 2);
        D.due("2 the least", x.rooms(2), 6);
        D.due("2 the same again", x.rooms(2), 2);
        D.due("2 images stay", x.restore(1), 1);
        D.due("2 images stay", x.told(2), 7);
        D.due("2 images stay", x.told(1), 3);
        x.rooms(3);
        x.guest(0, 0);
        D.due("2 likes as at first", x.told(1000), 10);
        x.door(0, 1, 2);
        x.room(0, 5, 1);
        x.guest(1, 0);
        Due.doing(x, "AbB_");
        x.rooms(3);
        x.door(0, 1, 2);
        D.due("2 nobody stands in a door", x.door(0, 1, 0), 2);
        x.room(0, 5, 1);
        D.due("2 nobody sits", x.room(0, 5, 0), 1);
    }

    private static void room() {
        KitchenDrift x = new KitchenDrift();
        for (int what = 0; what < 6; what++) {
            D.due("3 first", x.room(2, what, 9), what == 4 ? 8 : 0);
            D.due("3 then", x.room(2, what, 3), 9);
            D.due("3 told", x.told(30 + what), 3);
            D.due("3 another room", x.told(20 + what), what == 4 ? 8 : 0);
            D.due("3 above", x.room(2, what, 10), Due.OUTSIDE);
            D.due("3 below", x.room(2, what, -1), Due.OUTSIDE);
            D.due("3 zero", x.room(2, what, 0), what == 4 ? Due.OUTSIDE : 3);
        }
        D.due("3 what -1", x.room(0, -1, 0), Due.OUTSIDE);
        D.due("3 what 6", x.room(0, 6, 0), Due.OUTSIDE);
        D.due("3 room -1", x.room(-1, 0, 0), Due.UNKNOWN);
        D.due("3 room 3, ahead of OUTSIDE", x.room(3, 9, 99), Due.UNKNOWN);
        x.guest(0, 0);
        x.guest(1, 0);
        x.guest(2, 1);
        D.due("3 more are there", x.room(0, 4, 1), Due.STATE);
        D.due("3 OUTSIDE ahead of STATE", x.room(0, 4, 0), Due.OUTSIDE);
        D.due("3 as many", x.room(0, 4, 2), 8);
        x.room(0, 5, 3);
        D.due("3 two sit", Due.doing(x, "A_B_"), 2);
        D.due("3 more sit there", x.room(0, 5, 1), Due.STATE);
        D.due("3 refused, it stays", x.told(15), 3);
        D.due("3 as many sit", x.room(0, 5, 2), 3);
        D.due("3 nobody sits in another", x.room(1, 5, 0), 0);
        D.due("3 one stands up", Due.doing(x, "B^"), 1);
        D.due("3 one sits", x.room(0, 5, 1), 2);
    }

    private static void door() {
        KitchenDrift x = new KitchenDrift();
        D.due("4 none at first", x.door(0, 1, 2), 0);
        D.due("4 both ways", x.door(1, 0, 3), 2);
        D.due("4 told", x.told(101), 3);
        D.due("4 told", x.told(200), 3);
        D.due("4 others not", x.told(102), 0);
        D.due("4 width 4", x.door(0, 1, 4), Due.OUTSIDE);
        D.due("4 width -1", x.door(0, 1, -1), Due.OUTSIDE);
        D.due("4 both are one, ahead of OUTSIDE", x.door(1, 1, 9), Due.UNKNOWN);
        D.due("4 room 3", x.door(0, 3, 1), Due.UNKNOWN);
        D.due("4 room -1", x.door(-1, 0, 1), Due.UNKNOWN);
        D.due("4 none where none was", x.door(0, 2, 0), 0);
        x.guest(0, 0);
        Due.doing(x, "Ab");
        D.due("4 somebody stands in it", x.door(0, 1, 0), Due.STATE);
        D.due("4 from the other side", x.door(1, 0, 0), Due.STATE);
        D.due("4 OUTSIDE ahead of STATE", x.door(1, 0, -1), Due.OUTSIDE);
        D.due("4 narrower", x.door(1, 0, 1), 3);
        D.due("4 another door", x.door(0, 2, 1), 0);
        D.due("4 another door goes", x.door(0, 2, 0), 1);
        x.guest(1, 1);
        x.door(1, 2, 2);
        x.door(0, 2, 2);
        Due.doing(x, "A^Bc");
        D.due("4 who stands in another door of that room", x.door(0, 1, 0), 1);
        D.due("4 who stands in another door to that room", x.door(0, 2, 0), 2);
        x.door(0, 1, 1);
        Due.doing(x, "B^Ab");
        Due.doing(x, "A^");
        D.due("4 nobody stands in it", x.door(0, 1, 0), 1);
        D.due("4 it is gone", x.told(101), 0);
    }

    private static void guest() {
        KitchenDrift x = new KitchenDrift();
        D.due("5 guest -1", x.guest(-1, 0), Due.UNKNOWN);
        D.due("5 guest 8", x.guest(8, 0), Due.UNKNOWN);
        D.due("5 room -1", x.guest(0, -1), Due.UNKNOWN);
        D.due("5 room 3", x.guest(0, 3), Due.UNKNOWN);
        x.room(0, 4, 2);
        D.due("5 one", x.guest(7, 0), 1);
        D.due("5 two", x.guest(0, 0), 2);
        D.due("5 full", x.guest(1, 0), Due.FULL);
        D.due("5 refused, not there", x.told(2), 129);
        D.due("5 UNKNOWN ahead of FULL", x.guest(8, 0), Due.UNKNOWN);
        x.likes(0, 1, 3);
        D.due("5 anew in his full room", x.guest(0, 0), 2);
        D.due("5 likes as at first", x.told(1001), 10);
        D.due("5 elsewhere", x.guest(1, 2), 3);
        D.due("5 anew elsewhere is full", x.guest(1, 0), Due.FULL);
        D.due("5 where he was", x.state(1, 0), 2);
        Due.doing(x, "AH5");
        D.due("5 talks", x.state(7, 1), 1);
        D.due("5 anew in another room", x.guest(0, 1), 3);
        D.due("5 where", x.state(0, 0), 1);
        D.due("5 not busy", x.state(0, 1), 0);
        D.due("5 with whom he talked", x.state(7, 1), 0);
        D.due("5 with whom he talked", x.state(7, 2), Due.NONE);
        D.due("5 with whom he talked", x.state(7, 3), 0);
        x.room(1, 5, 1);
        Due.doing(x, "A_");
        x.guest(0, 1);
        D.due("5 does not sit", x.room(1, 5, 0), 1);
        x.room(2, 4, 9);
        for (int g = 0; g < 8; g++) {
            x.guest(g, 2);
        }
        D.due("5 all", x.told(2), 255);
    }

    private static void likes() {
        KitchenDrift x = new KitchenDrift();
        x.guest(3, 1);
        for (int sort = 0; sort < 5; sort++) {
            D.due("6 first", x.likes(3, sort, -3), 10);
            D.due("6 then", x.likes(3, sort, 3), 7);
            D.due("6 told", x.told(4000 + sort), 13);
            D.due("6 above", x.likes(3, sort, 4), Due.OUTSIDE);
            D.due("6 below", x.likes(3, sort, -4), Due.OUTSIDE);
            D.due("6 refused, it stays", x.likes(3, sort, sort - 2), 13);
        }
        D.due("6 sort -1", x.likes(3, -1, 0), Due.OUTSIDE);
        D.due("6 sort 5", x.likes(3, 5, 0), Due.OUTSIDE);
        D.due("6 not there, ahead of OUTSIDE", x.likes(2, 9, 9), Due.UNKNOWN);
        D.due("6 guest 8", x.likes(8, 0, 0), Due.UNKNOWN);
        D.due("6 guest -1", x.likes(-1, 0, 0), Due.UNKNOWN);
    }

    private static void leave() {
        KitchenDrift x = Due.flat();
        D.due("7 not there", x.leave(3), Due.UNKNOWN);
        D.due("7 guest -1", x.leave(-1), Due.UNKNOWN);
        D.due("7 guest 8", x.leave(8), Due.UNKNOWN);
        Due.doing(x, "AB9");
        D.due("7 leaves", x.leave(0), 2);
        D.due("7 who is there", x.told(2), 6);
        D.due("7 the other is not busy", x.state(1, 1), 0);
        D.due("7 the other talks with nobody", x.state(1, 2), Due.NONE);
        D.due("7 no minutes yet", x.state(1, 3), 0);
        D.due("7 twice", x.leave(0), Due.UNKNOWN);
        D.due("7 nobody's likes", x.told(1000), Due.OUTSIDE);
        D.due("7 back", x.guest(0, 0), 3);
        D.due("7 likes as at first", x.told(1000), 10);
        Due.doing(x, "Cb");
        D.due("7 out of a door", x.leave(2), 2);
        D.due("7 it is not jammed", x.door(1, 2, 0), 2);
    }

    private static void say() {
        KitchenDrift x = new KitchenDrift();
        D.due("8 32", x.say(32), Due.OUTSIDE);
        D.due("8 127", x.say(127), Due.OUTSIDE);
        D.due("8 -1", x.say(-1), Due.OUTSIDE);
        D.due("8 33", x.say(33), 1);
        D.due("8 126", x.say(126), 2);
        for (int n = 3; n <= 60; n++) {
            D.due("8 more", x.say('.'), n);
        }
        D.due("8 full", x.say('.'), Due.FULL);
        D.due("8 OUTSIDE ahead of FULL", x.say(32), Due.OUTSIDE);
        D.due("8 told", x.told(0), 60);
    }

    private static void wipe() {
        KitchenDrift x = new KitchenDrift();
        D.due("9 none", x.wipe(), 0);
        Due.write(x, "A?.");
        D.due("9 three", x.wipe(), 3);
        D.due("9 gone", x.told(0), 0);
        D.due("9 gone", x.fault(), Due.NONE);
        D.due("9 none again", x.wipe(), 0);
        D.due("9 from the first place on", Due.doing(x, ".."), 2);
    }

    private static void fault() {
        KitchenDrift x = new KitchenDrift();
        for (String good : new String[] {"", ".", "AB1", "GH9", "AH5", "A_", "H^", "Bc", "ab0", "cc3", "...",
            "AB1A^.ab2Ca.", "D_EF2"}) {
            D.due("10 " + good, Due.fault(x, good), Due.NONE);
        }
        String[] bad = {"A", "AB", "a", "ab", ".A", "AB1C", "?", "I", "_", "1", "d", "Z", "g", "AA", "BA1", "A.", "A1", "Ad",
            "AI", "AB0", "AB.", "ABC", "aA", "ad0", "a.", "a0", "ab4", "abc", "ab_", "HH", "..x", "A_A_a?"};
        int[] place = {1, 2, 1, 2, 2, 4, 0, 0, 0, 0, 0, 0, 0, 1, 1, 1, 1, 1,
            1, 2, 2, 2, 1, 1, 1, 1, 2, 2, 2, 1, 2, 5};
        for (int n = 0; n < bad.length; n++) {
            D.due("10 " + bad[n], Due.fault(x, bad[n]), place[n]);
        }
        x.rooms(6);
        D.due("10 six rooms", Due.fault(x, "AfeF".substring(0, 2)), Due.NONE);
        D.due("10 six rooms", Due.fault(x, "fe3"), Due.NONE);
        D.due("10 no seventh", Due.fault(x, "Ag"), 1);
        Due.write(x, "f");
        x.rooms(2);
        D.due("10 the room has gone", x.fault(), 0);
        D.due("10 two rooms", Due.fault(x, "bc0"), 1);
        D.due("10 sixty signs, more must come", Due.fault(x, ".".repeat(59) + "A"), 60);
        D.due("10 sixty signs", Due.fault(x, ".".repeat(60)), Due.NONE);
    }
}
