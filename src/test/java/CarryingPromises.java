/** Promises 22 to 27: carrying, doors, rests, leading, excuses. */
public final class CarryingPromises {
    private static final Due D = new Due("CarryingPromises");

    public static void main(String[] args) {
        carried();
        carriedAsEvents();
        hinges();
        hingesElsewhere();
        hingesJammed();
        best();
        rests();
        restsRefused();
        restsFull();
        led();
        ledBusy();
        excuses();
        excusesOfSeveral();
        D.end();
    }

    private static void carried() {
        KitchenDrift x = Due.flat();
        D.due("22 now", x.carried(0, 0), 2);
        D.due("22 now", x.carried(0, 1), 0);
        D.due("22 one minute", x.carried(1, 0), 1);
        D.due("22 one minute", x.carried(1, 1), 110);
        D.due("22 nothing is done", x.told(10), 5);
        D.due("22 m -1", x.carried(-1, 0), Due.OUTSIDE);
        D.due("22 m 21", x.carried(21, 0), Due.OUTSIDE);
        D.due("22 what -1", x.carried(0, -1), Due.OUTSIDE);
        D.due("22 what 2", x.carried(0, 2), Due.OUTSIDE);
        D.due("22 nobody", new KitchenDrift().carried(20, 0), 0);
        D.due("22 nobody", new KitchenDrift().carried(20, 1), 0);
    }

    /** Two who like light sit together in the dark; what is to be carried is a candle. */
    private static void carriedAsEvents() {
        KitchenDrift x = new KitchenDrift();
        x.door(0, 1, 3);
        x.guest(0, 0);
        x.guest(1, 0);
        x.likes(1, 3, 3);
        x.likes(1, 4, 1);
        x.room(0, 3, 9);
        x.room(1, 3, 8);
        D.due("22 both stay", x.crowd(0, 9), 3);
        D.due("22 the candle, not to a third room", x.carried(9, 1), 113);
        D.due("22 they part", x.carried(9, 0), 1);
        x.room(1, 3, 9);
        x.room(0, 3, 9);
        x.likes(1, 4, 3);
        D.due("22 nine are there already; by way of the third room", x.carried(9, 1), 0);
        D.due("22 it does not spread", x.carried(9, 0), 2);
        x.likes(1, 4, 2);
        D.due("22 away from here is enough", x.carried(9, 1), 123);
        x.room(2, 3, 9);
        D.due("22 nine there, too", x.carried(9, 1), 0);
    }

    private static void hinges() {
        KitchenDrift x = new KitchenDrift();
        x.rooms(4);
        x.door(0, 1, 1);
        x.door(2, 0, 1);
        x.room(1, 0, 1);
        x.room(2, 1, 1);
        for (int g = 0; g < 6; g++) {
            x.guest(g, 0);
            x.likes(g, g < 4 ? 1 : 0, 1);
        }
        D.due("23 now", x.hinges(0, 0), 6);
        D.due("23 now", x.hinges(0, 1), Due.NONE);
        D.due("23 one minute: by a b three are left, by a c four are there", x.hinges(1, 0), 3);
        D.due("23 one minute: by a b", x.hinges(1, 1), 1);
        x.likes(2, 1, 0);
        x.likes(3, 1, 0);
        D.due("23 as few by two doors", x.hinges(1, 0), 3);
        D.due("23 as few by two doors, the least", x.hinges(1, 1), 1);
        x.likes(4, 0, 0);
        x.likes(5, 0, 0);
        D.due("23 only c draws", x.hinges(1, 1), 2);
        x.likes(4, 0, 1);
        x.likes(5, 0, 1);
        D.due("23 two minutes, none better", x.hinges(2, 1), Due.NONE);
        D.due("23 two minutes, as it is", x.hinges(2, 0), 2);
        D.due("23 not done", x.told(101), 1);
        D.due("23 m -1", x.hinges(-1, 0), Due.OUTSIDE);
        D.due("23 m 21", x.hinges(21, 0), Due.OUTSIDE);
        D.due("23 what 2", x.hinges(0, 2), Due.OUTSIDE);
        D.due("23 what -1", x.hinges(0, -1), Due.OUTSIDE);
        D.due("23 nobody", new KitchenDrift().hinges(20, 1), Due.NONE);
    }

    /** Two in c would go to b, which has a door to c alone, though a draws, too. */
    private static void hingesElsewhere() {
        KitchenDrift x = new KitchenDrift();
        x.door(1, 2, 1);
        x.room(0, 0, 9);
        x.room(1, 0, 1);
        for (int g = 0; g < 4; g++) {
            x.guest(g, 2);
        }
        x.likes(0, 0, 1);
        x.likes(1, 0, 1);
        D.due("23 the door of b and c", x.hinges(1, 1), 12);
        D.due("23 two and two", x.hinges(1, 0), 2);
        x.door(1, 2, 3);
        D.due("23 where there is no door none comes off", x.hinges(1, 1), Due.NONE);
    }

    private static void hingesJammed() {
        KitchenDrift x = new KitchenDrift();
        x.rooms(2);
        x.door(0, 1, 1);
        x.room(1, 0, 1);
        for (int g = 0; g < 4; g++) {
            x.guest(g, 0);
        }
        x.likes(0, 0, 1);
        x.likes(1, 0, 1);
        Due.doing(x, "Db");
        D.due("23 jammed", x.crowd(1, 20), 0);
        D.due("23 jammed or not", x.hinges(1, 0), 2);
        D.due("23 jammed or not", x.hinges(1, 1), 1);
        x.room(1, 4, 1);
        D.due("23 sizes hold", x.hinges(20, 0), 3);
        D.due("23 sizes hold", x.hinges(20, 1), 1);
    }

    private static void best() {
        KitchenDrift x = Due.flat();
        D.due("24 the kitchen", x.best(0), 0);
        D.due("24 his own, as good", x.best(1), 1);
        D.due("24 no door, not looked at", x.best(2), 0);
        x.room(1, 0, 5);
        D.due("24 of several the least", x.best(2), 0);
        D.due("24 his own, as good", x.best(0), 1);
        x.room(0, 4, 1);
        x.guest(3, 0);
        x.guest(4, 1);
        D.due("24 sizes not looked at", x.best(2), 0);
        x.likes(2, 4, 1);
        D.due("24 three there", x.best(2), 1);
        x.likes(0, 4, -3);
        D.due("24 flees two to one", x.best(0), 0);
        Due.doing(x, "BE1");
        D.due("24 busy, not looked at", x.best(1), 1);
        KitchenDrift y = new KitchenDrift();
        y.guest(0, 1);
        y.likes(0, 0, -1);
        for (int room = 0; room < 3; room++) {
            y.room(room, 0, 2);
        }
        D.due("24 all bad, and no room more", y.best(0), 1);
        y.room(2, 0, 1);
        D.due("24 the least bad", y.best(0), 2);
        D.due("24 not there", x.best(7), Due.UNKNOWN);
        D.due("24 guest 8", x.best(8), Due.UNKNOWN);
        D.due("24 guest -1", x.best(-1), Due.UNKNOWN);
    }

    private static void rests() {
        KitchenDrift x = Due.flat();
        D.due("25 nobody to put", x.rests(0, -1), 1);
        D.due("25 A", x.rests(1, -1), 1);
        D.due("25 A", x.rests(1, 0), 0);
        D.due("25 B with A or with C", x.rests(2, -1), 2);
        D.due("25 B, the first", x.rests(2, 1), 1);
        D.due("25 C", x.rests(4, 2), 0);
        D.due("25 all", x.rests(7, -1), 1);
        D.due("25 all", x.rests(7, 1), 0);
        KitchenDrift y = new KitchenDrift();
        y.guest(3, 0);
        y.guest(5, 0);
        D.due("25 without likes", y.rests(40, -1), 9);
        y.likes(3, 4, 1);
        y.likes(5, 4, -1);
        D.due("25 follows, flees: no way", y.rests(40, -1), 0);
        D.due("25 no way, no first", y.rests(40, 3), Due.NONE);
        D.due("25 no way, no first", y.rests(40, 5), Due.NONE);
        y.likes(3, 4, -1);
        D.due("25 both flee", y.rests(40, -1), 6);
        D.due("25 the least guest's digit first", y.rests(40, 3), 0);
        D.due("25 the least guest's digit first", y.rests(40, 5), 1);
        y.guest(7, 1);
        y.likes(7, 4, -3);
        D.due("25 three flee", y.rests(168, -1), 6);
        D.due("25 three flee, the first", y.rests(168, 3), 0);
        D.due("25 three flee, the first", y.rests(168, 5), 1);
        D.due("25 three flee, the first", y.rests(168, 7), 2);
    }

    private static void restsRefused() {
        KitchenDrift x = Due.flat();
        D.due("25 D is not there", x.rests(8, -1), Due.OUTSIDE);
        D.due("25 D is not there, ahead", x.rests(8, 9), Due.OUTSIDE);
        D.due("25 set 256", x.rests(256, -1), Due.OUTSIDE);
        D.due("25 set -1", x.rests(-1, -1), Due.OUTSIDE);
        D.due("25 C is not of it", x.rests(3, 2), Due.UNKNOWN);
        D.due("25 guest 8", x.rests(3, 8), Due.UNKNOWN);
        D.due("25 guest -2", x.rests(3, -2), Due.UNKNOWN);
        D.due("25 guest 32, a bit again", x.rests(3, 32), Due.UNKNOWN);
        x.room(2, 4, 9);
        for (int g = 0; g < 8; g++) {
            x.guest(g, 2);
        }
        D.due("25 seven", x.rests(127, -1), Due.FULL);
        D.due("25 eight", x.rests(255, 0), Due.FULL);
        D.due("25 six", x.rests(63, -1), 729);
        D.due("25 six others", x.rests(252, 7), 0);
    }

    /** One place at the fire for two who both want it. */
    private static void restsFull() {
        KitchenDrift x = new KitchenDrift();
        x.room(0, 2, 2);
        x.room(0, 4, 1);
        x.guest(0, 1);
        x.guest(1, 1);
        x.likes(0, 2, 1);
        x.likes(1, 2, 1);
        D.due("25 one by the fire, the other anywhere", x.rests(3, -1), 4);
        D.due("25 the first", x.rests(3, 0), 0);
        D.due("25 the first", x.rests(3, 1), 1);
        x.guest(2, 0);
        D.due("25 the fire is taken", x.rests(3, -1), 4);
        D.due("25 the fire is taken", x.rests(3, 0), 1);
        x.room(1, 4, 2);
        x.room(2, 4, 1);
        D.due("25 no room above its size", x.rests(3, -1), 3);
        x.guest(3, 2);
        D.due("25 just one way is left", x.rests(3, -1), 1);
        D.due("25 just one way is left", x.rests(3, 1), 1);
        x.likes(0, 4, -3);
        D.due("25 full rooms do not draw", x.rests(3, -1), 1);
    }

    private static void led() {
        KitchenDrift x = Due.flat();
        D.due("26 A led, B follows", x.led(2, 3, 1, 0), 1);
        D.due("26 A led, B follows", x.led(2, 3, 1, 1), 1);
        D.due("26 by themselves", x.led(2, 2, 1, 0), 0);
        D.due("26 by themselves", x.led(2, 2, 1, 1), 0);
        D.due("26 at once", x.led(2, 3, 0, 0), 2);
        D.due("26 at once", x.led(2, 3, 0, 1), 3);
        D.due("26 from wherever they are", x.led(0, 2, 0, 1), 3);
        D.due("26 who is there is led to stay", x.led(1, 2, 1, 1), 1);
        D.due("26 who is there is led to stay", x.led(1, 2, 1, 0), 1);
        D.due("26 four of three", x.led(0, 4, 20, 0), Due.NONE);
        D.due("26 four of three", x.led(0, 4, 20, 1), Due.NONE);
        D.due("26 nothing is done", x.state(0, 1), 0);
        x.room(2, 4, 2);
        D.due("26 no room for three", x.led(2, 3, 1, 0), Due.NONE);
        D.due("26 room 3, ahead of OUTSIDE", x.led(3, 0, 0, 0), Due.UNKNOWN);
        D.due("26 room -1", x.led(-1, 1, 0, 0), Due.UNKNOWN);
        D.due("26 k 0", x.led(0, 0, 0, 0), Due.OUTSIDE);
        D.due("26 k 9", x.led(0, 9, 0, 0), Due.OUTSIDE);
        D.due("26 m -1", x.led(0, 1, -1, 0), Due.OUTSIDE);
        D.due("26 m 21", x.led(0, 1, 21, 0), Due.OUTSIDE);
        D.due("26 what -1", x.led(0, 1, 0, -1), Due.OUTSIDE);
        D.due("26 what 2", x.led(0, 1, 0, 2), Due.OUTSIDE);
        D.due("26 nobody", new KitchenDrift().led(0, 1, 0, 1), Due.NONE);
    }

    private static void ledBusy() {
        KitchenDrift x = new KitchenDrift();
        x.room(0, 5, 1);
        for (int g = 0; g < 4; g++) {
            x.guest(g, 0);
        }
        D.due("26 two of four, least as bits", x.led(1, 2, 5, 1), 3);
        D.due("26 eight of four", x.led(1, 8, 5, 1), Due.NONE);
        D.due("26 what comes by itself counts", x.led(0, 4, 20, 0), 0);
        Due.doing(x, "A_");
        D.due("26 one sits", x.led(1, 2, 5, 1), 6);
        Due.doing(x, "BC1");
        D.due("26 two talk", x.led(1, 2, 5, 1), Due.NONE);
        D.due("26 one is left", x.led(1, 1, 5, 1), 8);
        D.due("26 chairs are not looked at", x.led(1, 1, 5, 0), 1);
        x.room(1, 4, 1);
        x.guest(4, 1);
        D.due("26 who is there needs no more room", x.led(1, 1, 0, 1), 0);
        x.door(0, 1, 3);
        x.room(0, 0, 1);
        x.likes(4, 0, 1);
        D.due("26 E would go", x.led(1, 1, 1, 1), 16);
        D.due("26 as if he sat, though no chair is", x.led(1, 1, 20, 0), 1);
    }

    private static void excuses() {
        KitchenDrift x = Due.flat();
        D.due("27 by the hall", x.excuses(2, 0, -1), 2);
        D.due("27 by the hall", x.excuses(2, 0, 0), 2);
        D.due("27 by the hall", x.excuses(2, 0, 1), 1);
        D.due("27 by the hall", x.excuses(2, 0, 2), 0);
        D.due("27 no more", x.excuses(2, 0, 3), Due.NONE);
        D.due("27 no more", x.excuses(2, 0, Integer.MAX_VALUE), Due.NONE);
        D.due("27 i -2", x.excuses(2, 0, -2), Due.NONE);
        D.due("27 i least", x.excuses(2, 0, Integer.MIN_VALUE), Due.NONE);
        D.due("27 its last, too", x.excuses(0, 2, -1), 1);
        D.due("27 where he is", x.excuses(0, 1, -1), 0);
        D.due("27 where he is", x.excuses(0, 1, 0), 1);
        D.due("27 where he is", x.excuses(0, 1, 1), Due.NONE);
        D.due("27 room 3", x.excuses(0, 3, -1), Due.UNKNOWN);
        D.due("27 room -1", x.excuses(0, -1, -1), Due.UNKNOWN);
        D.due("27 not there", x.excuses(4, 0, -1), Due.UNKNOWN);
        x.door(1, 2, 0);
        D.due("27 no way", x.excuses(0, 2, -1), Due.NONE);
        D.due("27 no way", x.excuses(0, 2, 0), Due.NONE);
        Due.doing(x, "Ba");
        D.due("27 jams are not looked at", x.excuses(0, 0, -1), 0);
    }

    private static void excusesOfSeveral() {
        KitchenDrift x = new KitchenDrift();
        x.rooms(6);
        x.door(0, 1, 1);
        x.door(1, 5, 1);
        x.door(0, 2, 1);
        x.door(2, 5, 1);
        x.door(0, 3, 1);
        x.door(3, 4, 1);
        x.door(4, 5, 1);
        x.guest(0, 0);
        D.due("27 the first by rooms", x.excuses(0, 5, 1), 1);
        x.guest(1, 1);
        D.due("27 fewer excuses", x.excuses(0, 5, 1), 2);
        D.due("27 none", x.excuses(0, 5, -1), 0);
        x.guest(2, 2);
        D.due("27 fewer excuses by more doors", x.excuses(0, 5, 1), 3);
        D.due("27 fewer excuses by more doors", x.excuses(0, 5, 2), 4);
        D.due("27 fewer excuses by more doors", x.excuses(0, 5, 3), 5);
        x.guest(3, 4);
        D.due("27 as many: the fewest doors, the first", x.excuses(0, 5, 1), 1);
        D.due("27 as many: the fewest doors, the first", x.excuses(0, 5, 2), 5);
        D.due("27 as many", x.excuses(0, 5, -1), 1);
        x.guest(4, 5);
        x.guest(5, 5);
        D.due("27 its last, too", x.excuses(0, 5, -1), 3);
        D.due("27 its first not", x.excuses(4, 0, -1), 2);
        D.due("27 back", x.excuses(4, 0, 1), 1);
    }
}
