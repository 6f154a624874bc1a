/** Promises 22 to 27 at the edges that their sentences and the Terms name: a test each. */
public final class CarryingEdges {
    private static final Due D = new Due("CarryingEdges");
    private static final int LEAST = Integer.MIN_VALUE, MOST = Integer.MAX_VALUE;

    public static void main(String[] args) {
        carriedRefused();
        carriedByNobody();
        carriedNothing();
        carriedLastOfAll();
        carriedFirstOfSeveral();
        carriedWhatCanBe();
        carriedMinutes();
        hingesRefused();
        hingesOfNoDoor();
        hingesOfTheLastDoor();
        hingesLeastOfSeveral();
        hingesNoBetter();
        hingesJammed();
        bestRefused();
        bestOfSix();
        bestOfTheBad();
        restsOfNobody();
        restsRefused();
        restsTooMany();
        restsMost();
        restsByDigits();
        restsNoWay();
        restsFullRooms();
        restsOthersStay();
        ledRefused();
        ledByThemselves();
        ledAll();
        ledTooMany();
        ledNotBusy();
        ledLeastBits();
        ledFewerAheadOfLeastBits();
        ledStay();
        ledOthersFollow();
        excusesRefused();
        excusesToHisOwn();
        excusesNoWay();
        excusesLongest();
        excusesMost();
        excusesOfSeveral();
        D.end();
    }

    // ---- promise 22

    private static void carriedRefused() {
        KitchenDrift x = Due.flat();
        for (int m : new int[] {-1, 21, 256, LEAST, MOST}) {
            D.due("22 m " + m, x.carried(m, 0), Due.OUTSIDE);
            D.due("22 m " + m + ", which", x.carried(m, 1), Due.OUTSIDE);
        }
        for (int what : new int[] {-1, 2, LEAST, MOST}) {
            D.due("22 what " + what, x.carried(0, what), Due.OUTSIDE);
        }
        D.due("22 the most minutes", lastLight().carried(20, 0), 1);
    }

    private static void carriedByNobody() {
        KitchenDrift x = new KitchenDrift();
        x.room(0, 0, 5);
        D.due("22 nobody", x.carried(20, 0), 0);
        D.due("22 nobody: nothing", x.carried(20, 1), 0);
    }

    private static void carriedNothing() {
        KitchenDrift x = Due.come(Due.open(3, 3), 3, 0);
        D.due("22 no things", x.carried(5, 0), 3);
        D.due("22 no things: nothing", x.carried(5, 1), 0);
        x.room(0, 0, 9);
        D.due("22 nobody likes them", x.carried(5, 0), 3);
        D.due("22 nobody likes them: nothing is as good", x.carried(5, 1), 0);
        x.guest(1, 1);
        x.guest(2, 2);
        x.likes(0, 0, 3);
        x.likes(1, 0, 3);
        D.due("22 what they do by themselves", x.carried(0, 0), 1);
        D.due("22 what they do by themselves: nothing", x.carried(0, 1), 0);
    }

    /** A and B in f, with a DOOR to e: only the one light that A likes parts them, carried to e. */
    private static KitchenDrift lastLight() {
        KitchenDrift x = new KitchenDrift();
        x.rooms(6);
        x.door(4, 5, 1);
        x.guest(0, 5);
        x.guest(1, 5);
        x.room(5, 3, 1);
        x.likes(0, 3, 1);
        return x;
    }

    private static void carriedLastOfAll() {
        KitchenDrift x = lastLight();
        D.due("22 from f to e the light", x.carried(1, 1), 643);
        D.due("22 they part", x.carried(1, 0), 1);
        D.due("22 now they are together", x.carried(0, 0), 2);
        D.due("22 nothing is done", x.told(63), 1);
        D.due("22 nobody went", x.crowd(5, 0), 3);
        KitchenDrift y = new KitchenDrift();
        y.rooms(6);
        y.door(0, 5, 1);
        Due.come(y, 2, 0);
        y.room(0, 3, 1);
        y.likes(1, 3, 1);
        D.due("22 from a to f the light", y.carried(1, 1), 153);
    }

    private static void carriedFirstOfSeveral() {
        KitchenDrift x = lastLight();
        x.door(3, 5, 1);
        D.due("22 of two rooms to go to the first", x.carried(1, 1), 633);
        KitchenDrift y = lastLight();
        y.room(5, 0, 1);
        y.likes(0, 0, 1);
        y.likes(0, 4, -1);
        D.due("22 of two sorts the first", y.carried(1, 1), 640);
        KitchenDrift z = lastLight();
        z.room(5, 3, 0);
        z.room(2, 3, 1);
        z.room(3, 3, 1);
        D.due("22 of two rooms to come from the first", z.carried(1, 1), 343);
    }

    private static void carriedWhatCanBe() {
        KitchenDrift x = lastLight();
        x.room(4, 3, 9);
        x.room(5, 3, 9);
        D.due("22 nine are in e: out of f is enough", x.carried(1, 1), 603);
        for (int room = 0; room < 4; room++) {
            x.room(room, 3, 9);
        }
        D.due("22 nine are everywhere", x.carried(1, 1), 0);
        D.due("22 nine are everywhere, they stay", x.carried(1, 0), 2);
        x.room(4, 3, 8);
        D.due("22 eight are in e", x.carried(1, 1), 643);
        x.likes(0, 4, -1);
        D.due("22 eight are in e, A flees B: any ninth does", x.carried(1, 1), 143);
        x.room(5, 3, 0);
        for (int room = 0; room < 5; room++) {
            x.room(room, 3, 0);
        }
        x.likes(0, 4, 0);
        D.due("22 none anywhere", x.carried(1, 1), 0);
    }

    /** A walks from a to f by a row of DOORS, the light always one ROOM more. */
    private static void carriedMinutes() {
        KitchenDrift x = new KitchenDrift();
        x.rooms(6);
        x.guest(0, 0);
        x.guest(1, 1);
        x.likes(0, 3, 1);
        for (int room = 0; room < 5; room++) {
            x.door(room, room + 1, 1);
            x.room(room + 1, 3, room + 1);
        }
        D.due("22 a minute: both in b", x.crowd(1, 1), 3);
        D.due("22 a minute: one of b's carried away, A stays in a", x.carried(1, 0), 1);
        D.due("22 a minute: from b to a", x.carried(1, 1), 203);
        D.due("22 two minutes: A went on by himself", x.carried(2, 1), 0);
        D.due("22 two minutes: one in each", x.carried(2, 0), 1);
    }

    // ---- promise 23

    private static void hingesRefused() {
        KitchenDrift x = Due.flat();
        for (int m : new int[] {-1, 21, 256, LEAST, MOST}) {
            D.due("23 m " + m, x.hinges(m, 0), Due.OUTSIDE);
            D.due("23 m " + m + ", which", x.hinges(m, 1), Due.OUTSIDE);
        }
        for (int what : new int[] {-1, 2, LEAST, MOST}) {
            D.due("23 what " + what, x.hinges(0, what), Due.OUTSIDE);
        }
        D.due("23 the most minutes", x.hinges(20, 0), 2);
        D.due("23 nobody", Due.open(6, 1).hinges(20, 0), 0);
        D.due("23 nobody: none", Due.open(6, 1).hinges(20, 1), Due.NONE);
    }

    private static void hingesOfNoDoor() {
        KitchenDrift x = Due.come(new KitchenDrift(), 8, 0);
        x.room(1, 0, 1);
        for (int g = 0; g < 4; g++) {
            x.likes(g, 0, 1);
        }
        D.due("23 no door", x.hinges(1, 0), 8);
        D.due("23 no door: none", x.hinges(1, 1), Due.NONE);
    }

    /** Eight in f; the first four like e. */
    private static KitchenDrift halfForE() {
        KitchenDrift x = new KitchenDrift();
        x.rooms(6);
        x.door(4, 5, 1);
        Due.come(x, 8, 5);
        x.room(4, 2, 1);
        for (int g = 0; g < 4; g++) {
            x.likes(g, 2, 1);
        }
        return x;
    }

    private static void hingesOfTheLastDoor() {
        KitchenDrift x = halfForE();
        D.due("23 now", x.hinges(0, 0), 8);
        D.due("23 now: none", x.hinges(0, 1), Due.NONE);
        D.due("23 four and four", x.hinges(1, 0), 4);
        D.due("23 e and f", x.hinges(1, 1), 45);
        D.due("23 not done", x.told(605), Due.OUTSIDE);
        D.due("23 not done", x.told(604), 1);
        D.due("23 nobody went", x.crowd(5, 0), 255);
        D.due("23 three minutes: they are five yet", x.crowd(5, 3), 255 - 7);
        D.due("23 three minutes: e and f", x.hinges(3, 1), 45);
        D.due("23 four minutes: as it is", x.hinges(4, 1), Due.NONE);
        D.due("23 four minutes: four", x.hinges(4, 0), 4);
    }

    private static void hingesLeastOfSeveral() {
        KitchenDrift x = halfForE();
        x.door(3, 5, 1);
        x.room(3, 1, 1);
        for (int g = 4; g < 8; g++) {
            x.likes(g, 1, 1);
        }
        x.guest(7, 0);
        x.likes(3, 2, 0);
        D.due("23 two by d and f are as good", x.hinges(1, 1), 35);
        D.due("23 three", x.hinges(1, 0), 3);
        x.likes(6, 1, 0);
        D.due("23 more like e", x.hinges(1, 1), 45);
        D.due("23 more like e: three", x.hinges(1, 0), 3);
    }

    private static void hingesNoBetter() {
        KitchenDrift x = halfForE();
        for (int g = 0; g < 8; g++) {
            x.likes(g, 2, 1);
        }
        D.due("23 all at once to e is worse", x.hinges(1, 0), 7);
        D.due("23 all at once to e is worse: none", x.hinges(1, 1), Due.NONE);
        x.likes(0, 2, 0);
        D.due("23 seven in e are no better than seven in f", x.hinges(1, 0), 7);
        D.due("23 seven in e are no better than seven in f: none", x.hinges(1, 1), Due.NONE);
        x.likes(1, 2, 0);
        D.due("23 six in e are", x.hinges(1, 0), 6);
        D.due("23 six in e are", x.hinges(1, 1), 45);
    }

    private static void hingesJammed() {
        KitchenDrift x = halfForE();
        Due.doing(x, "EeFeGeHe");
        D.due("23 four stand in it", x.crowd(4, 20), 0);
        D.due("23 jammed or not", x.hinges(1, 0), 4);
        D.due("23 jammed or not", x.hinges(1, 1), 45);
        x.room(4, 4, 3);
        D.due("23 no more than there is room for", x.hinges(20, 0), 5);
    }

    // ---- promise 24

    private static void bestRefused() {
        KitchenDrift x = Due.flat();
        for (int guest : new int[] {-1, 3, 7, 8, 32, LEAST, MOST}) {
            D.due("24 guest " + guest, x.best(guest), Due.UNKNOWN);
        }
    }

    private static void bestOfSix() {
        KitchenDrift x = new KitchenDrift();
        x.rooms(6);
        x.guest(0, 2);
        x.likes(0, 1, 1);
        D.due("24 nothing anywhere: his own", x.best(0), 2);
        x.room(5, 1, 1);
        D.due("24 the last", x.best(0), 5);
        x.room(5, 4, 1);
        x.guest(1, 5);
        D.due("24 though it is full and has no door", x.best(0), 5);
        x.room(3, 1, 1);
        D.due("24 of two the least", x.best(0), 3);
        x.room(2, 1, 1);
        D.due("24 his own is as good", x.best(0), 2);
        x.room(5, 5, 1);
        Due.doing(x, "B_");
        D.due("24 one who sits", x.best(1), 5);
    }

    private static void bestOfTheBad() {
        KitchenDrift x = Due.come(new KitchenDrift(), 2, 2);
        x.likes(0, 4, -1);
        D.due("24 away from B: the least", x.best(0), 0);
        x.guest(2, 0);
        D.due("24 away from B and C", x.best(0), 1);
        x.guest(3, 1);
        D.due("24 one in each: his own is as good", x.best(0), 2);
    }

    // ---- promise 25

    private static void restsOfNobody() {
        KitchenDrift x = Due.flat();
        D.due("25 no guest, one way", x.rests(0, -1), 1);
        D.due("25 no guest, of it no guest is", x.rests(0, 0), Due.UNKNOWN);
        D.due("25 nobody is there", new KitchenDrift().rests(0, -1), 1);
    }

    private static void restsRefused() {
        KitchenDrift x = Due.flat();
        for (int set : new int[] {8, 15, 128, 255, 256, 257, -1, -8, LEAST, MOST}) {
            D.due("25 set " + set, x.rests(set, -1), Due.OUTSIDE);
            D.due("25 set " + set + " ahead of UNKNOWN", x.rests(set, 9), Due.OUTSIDE);
        }
        for (int guest : new int[] {-2, 1, 3, 8, 32, 34, LEAST, MOST}) {
            D.due("25 guest " + guest + " is not of A and C", x.rests(5, guest), Due.UNKNOWN);
        }
        Due.come(x, 8, 0);
        for (int set : new int[] {256, 511, -1, LEAST, MOST}) {
            D.due("25 all are there, set " + set, x.rests(set, -1), Due.OUTSIDE);
        }
    }

    private static void restsTooMany() {
        KitchenDrift x = Due.come(new KitchenDrift(), 8, 0);
        D.due("25 seven", x.rests(254, -1), Due.FULL);
        D.due("25 seven, one of them", x.rests(254, 7), Due.FULL);
        D.due("25 eight", x.rests(255, -1), Due.FULL);
        D.due("25 six of eight", x.rests(252, -1), 729);
        D.due("25 seven, and a guest who is not of it: UNKNOWN is first in the Terms", x.rests(254, 0), Due.UNKNOWN);
        x.leave(0);
        D.due("25 eight, of whom one is not there: OUTSIDE ahead", x.rests(255, -1), Due.OUTSIDE);
    }

    private static void restsMost() {
        KitchenDrift x = new KitchenDrift();
        x.rooms(6);
        Due.come(x, 6, 0);
        D.due("25 six in six rooms, no likes", x.rests(63, -1), 46656);
        D.due("25 the first: all in the first", x.rests(63, 5), 0);
        for (int room = 0; room < 6; room++) {
            x.guest(room, room);
        }
        for (int room = 0; room < 6; room++) {
            x.room(room, 4, 1);
        }
        D.due("25 one in each", x.rests(63, -1), 720);
        for (int g = 0; g < 6; g++) {
            D.due("25 one in each, the first", x.rests(63, g), g);
        }
        x.room(0, 0, 9);
        x.likes(3, 0, 3);
        D.due("25 all rooms being full, none draws", x.rests(63, -1), 720);
    }

    /** A to F each like another ROOM most, A the last one. */
    private static void restsByDigits() {
        KitchenDrift x = new KitchenDrift();
        x.rooms(6);
        int[] who = {0, 1, 3, 4, 5, 7};
        for (int n = 0; n < 6; n++) {
            x.guest(who[n], 0);
        }
        for (int sort = 0; sort < 4; sort++) {
            x.room(5 - sort, sort, 9);
            x.likes(who[sort], sort, 1);
            x.room(sort < 2 ? 1 : 0, sort, 5);
            x.likes(who[sort < 2 ? 4 : 5], sort, 1);
        }
        D.due("25 each as he likes", x.rests(187, -1), 1);
        for (int n = 0; n < 6; n++) {
            D.due("25 each as he likes, where", x.rests(187, who[n]), 5 - n);
        }
        D.due("25 nobody was put there", x.crowd(0, 0), 187);
    }

    private static void restsNoWay() {
        KitchenDrift x = Due.come(new KitchenDrift(), 2, 0);
        x.likes(0, 4, -1);
        x.likes(1, 4, 1);
        D.due("25 one flees, one follows", x.rests(3, -1), 0);
        D.due("25 no way, no first", x.rests(3, 0), Due.NONE);
        D.due("25 no way, no first", x.rests(3, 1), Due.NONE);
        D.due("25 no way, and a guest not of it", x.rests(3, 2), Due.UNKNOWN);
        D.due("25 one alone who flees: two rooms are as good", x.rests(1, -1), 2);
        D.due("25 the first of them", x.rests(1, 0), 1);
    }

    private static void restsFullRooms() {
        KitchenDrift x = new KitchenDrift();
        x.room(2, 0, 1);
        x.room(2, 4, 2);
        Due.come(x, 3, 0);
        for (int g = 0; g < 3; g++) {
            x.likes(g, 0, 1);
        }
        D.due("25 two in c, the third in a or b", x.rests(7, -1), 6);
        D.due("25 the first", 100 * x.rests(7, 0) + 10 * x.rests(7, 1) + x.rests(7, 2), 22);
        x.room(2, 4, 3);
        D.due("25 there is room for all", x.rests(7, -1), 1);
        D.due("25 all in c", 100 * x.rests(7, 0) + 10 * x.rests(7, 1) + x.rests(7, 2), 222);
    }

    private static void restsOthersStay() {
        KitchenDrift x = Due.come(new KitchenDrift(), 3, 2);
        x.room(2, 4, 3);
        x.likes(0, 4, 1);
        x.room(2, 5, 1);
        Due.doing(x, "A_");
        D.due("25 A, who sits, with B and C", x.rests(1, -1), 1);
        D.due("25 A, who sits, with B and C", x.rests(1, 0), 2);
        x.guest(0, 0);
        x.likes(0, 4, 1);
        x.guest(3, 2);
        D.due("25 the room is full without him", x.rests(1, -1), 2);
        D.due("25 the room is full without him", x.rests(1, 0), 0);
    }

    // ---- promise 26

    private static void ledRefused() {
        KitchenDrift x = Due.flat();
        for (int room : new int[] {-1, 3, 6, LEAST, MOST}) {
            D.due("26 room " + room, x.led(room, 1, 0, 0), Due.UNKNOWN);
            D.due("26 room " + room + " ahead of OUTSIDE", x.led(room, 0, 21, 2), Due.UNKNOWN);
        }
        for (int k : new int[] {0, -1, 9, LEAST, MOST}) {
            D.due("26 k " + k, x.led(0, k, 0, 0), Due.OUTSIDE);
        }
        for (int m : new int[] {-1, 21, LEAST, MOST}) {
            D.due("26 m " + m, x.led(0, 1, m, 0), Due.OUTSIDE);
        }
        for (int what : new int[] {-1, 2, LEAST, MOST}) {
            D.due("26 what " + what, x.led(0, 1, 0, what), Due.OUTSIDE);
        }
        D.due("26 the most minutes", x.led(0, 1, 20, 0), 0);
    }

    private static void ledByThemselves() {
        KitchenDrift x = Due.come(new KitchenDrift(), 8, 0);
        D.due("26 eight are there", x.led(0, 8, 0, 0), 0);
        D.due("26 eight are there: nobody", x.led(0, 8, 0, 1), 0);
        D.due("26 one is there", x.led(0, 1, 20, 1), 0);
        D.due("26 nobody at all", new KitchenDrift().led(0, 1, 20, 0), Due.NONE);
        D.due("26 nobody at all: which", new KitchenDrift().led(0, 1, 20, 1), Due.NONE);
    }

    private static void ledAll() {
        KitchenDrift x = new KitchenDrift();
        x.rooms(6);
        Due.come(x, 8, 0);
        D.due("26 all eight, without a door", x.led(5, 8, 20, 0), 8);
        D.due("26 all eight: which", x.led(5, 8, 20, 1), 255);
        x.room(5, 4, 7);
        D.due("26 seven have room", x.led(5, 8, 20, 0), Due.NONE);
        D.due("26 seven of them", x.led(5, 7, 0, 1), 127);
        x.leave(3);
        D.due("26 eight of seven", x.led(0, 8, 0, 0), Due.NONE);
    }

    private static void ledTooMany() {
        KitchenDrift x = Due.come(new KitchenDrift(), 2, 0);
        x.guest(7, 1);
        x.room(1, 4, 2);
        D.due("26 one more has room", x.led(1, 2, 0, 1), 1);
        D.due("26 two more have not", x.led(1, 3, 0, 1), Due.NONE);
        x.room(1, 4, 3);
        D.due("26 two more have", x.led(1, 3, 0, 1), 3);
    }

    private static void ledNotBusy() {
        KitchenDrift x = Due.come(Due.open(3, 3), 5, 0);
        x.room(0, 5, 1);
        Due.doing(x, "AB9C_Db");
        D.due("26 E alone is not busy", x.led(1, 1, 5, 1), 16);
        D.due("26 no second is", x.led(1, 2, 5, 1), Due.NONE);
        x.leave(4);
        D.due("26 nobody is", x.led(1, 1, 5, 0), Due.NONE);
        D.due("26 those who are busy there count", x.led(0, 4, 8, 0), 0);
    }

    private static void ledLeastBits() {
        KitchenDrift x = new KitchenDrift();
        for (int g = 2; g < 8; g++) {
            x.guest(g, 0);
        }
        D.due("26 the least one", x.led(1, 1, 0, 1), 4);
        D.due("26 the least two", x.led(1, 2, 0, 1), 12);
        D.due("26 the least three", x.led(1, 3, 0, 1), 28);
        x.guest(2, 1);
        D.due("26 one is there", x.led(1, 3, 0, 1), 24);
    }

    /** H would leave C; if H stays, E joins them when he has talked. A and B could be led instead, but they are two. */
    private static void ledFewerAheadOfLeastBits() {
        KitchenDrift x = new KitchenDrift();
        x.door(0, 1, 3);
        x.room(0, 0, 1);
        x.guest(0, 2);
        x.guest(1, 2);
        x.guest(2, 1);
        x.guest(4, 0);
        x.guest(5, 0);
        x.guest(7, 1);
        x.likes(7, 0, 1);
        x.likes(4, 4, 1);
        Due.doing(x, "EF1");
        D.due("26 one alone", x.led(1, 3, 2, 0), 1);
        D.due("26 one alone, though of greater bits than two", x.led(1, 3, 2, 1), 128);
        x.leave(7);
        D.due("26 H left: E joins whoever is led to C", x.led(1, 3, 2, 1), 1);
    }

    /** A would go from b to a: led to b, where he is, he stays. */
    private static void ledStay() {
        KitchenDrift x = Due.open(2, 1);
        x.room(0, 0, 1);
        x.guest(0, 1);
        x.likes(0, 0, 1);
        D.due("26 he goes", x.led(1, 1, 1, 0), 1);
        D.due("26 he goes: A", x.led(1, 1, 1, 1), 1);
        D.due("26 now he is there", x.led(1, 1, 0, 0), 0);
        D.due("26 he sits in fact on no chair", x.state(0, 1), 0);
        x.room(1, 4, 1);
        D.due("26 he has room where he is", x.led(1, 1, 20, 1), 1);
    }

    private static void ledOthersFollow() {
        KitchenDrift x = Due.come(Due.open(2, 1), 5, 0);
        for (int g = 1; g < 5; g++) {
            x.likes(g, 4, 3);
        }
        x.room(0, 4, 5);
        D.due("26 two led, none follows three", x.led(1, 5, 20, 0), 3);
        D.due("26 three led, two follow one by one", x.led(1, 5, 1, 0), 4);
        D.due("26 three led, two follow: which", x.led(1, 5, 2, 1), 7);
        D.due("26 four at once", x.led(1, 4, 0, 0), 4);
    }

    // ---- promise 27

    private static void excusesRefused() {
        KitchenDrift x = Due.flat();
        for (int guest : new int[] {-1, 3, 8, 32, LEAST, MOST}) {
            D.due("27 guest " + guest, x.excuses(guest, 0, -1), Due.UNKNOWN);
            D.due("27 guest " + guest + ", a wild i", x.excuses(guest, 0, LEAST), Due.UNKNOWN);
        }
        for (int room : new int[] {-1, 3, 6, LEAST, MOST}) {
            D.due("27 room " + room, x.excuses(0, room, -1), Due.UNKNOWN);
        }
        for (int i : new int[] {-2, 3, 6, 7, LEAST, MOST}) {
            D.due("27 i " + i, x.excuses(2, 0, i), Due.NONE);
        }
    }

    private static void excusesToHisOwn() {
        KitchenDrift x = Due.come(Due.open(6, 1), 8, 5);
        D.due("27 where he is, among seven", x.excuses(0, 5, -1), 0);
        D.due("27 where he is", x.excuses(0, 5, 0), 5);
        D.due("27 no second room", x.excuses(0, 5, 1), Due.NONE);
        D.due("27 to an empty one", x.excuses(0, 0, -1), 0);
        D.due("27 to an empty one, the second room", x.excuses(0, 0, 1), 0);
        D.due("27 to an empty one, no third", x.excuses(0, 0, 2), Due.NONE);
    }

    private static void excusesNoWay() {
        KitchenDrift x = new KitchenDrift();
        x.guest(0, 0);
        x.door(1, 2, 3);
        for (int i = -1; i <= 3; i++) {
            D.due("27 no way, i " + i, x.excuses(0, 2, i), Due.NONE);
        }
    }

    /** A row of six ROOMS, one in each; then round by all of them, because seven stand in the way. */
    private static void excusesLongest() {
        KitchenDrift x = new KitchenDrift();
        x.rooms(6);
        int[] row = {2, 0, 5, 1, 4, 3};
        for (int n = 0; n < 6; n++) {
            x.guest(n, row[n]);
            if (n > 0) {
                x.door(row[n - 1], row[n], 1);
            }
        }
        D.due("27 all six rooms", x.excuses(0, 3, -1), 5);
        for (int n = 0; n < 6; n++) {
            D.due("27 all six rooms, " + n, x.excuses(0, 3, n), row[n]);
        }
        D.due("27 no seventh", x.excuses(0, 3, 6), Due.NONE);
        for (int n = 0; n < 6; n++) {
            D.due("27 all six rooms, back, " + n, x.excuses(5, 2, n), row[5 - n]);
        }
    }

    private static void excusesMost() {
        KitchenDrift x = Due.come(Due.open(2, 1), 8, 1);
        x.guest(0, 0);
        D.due("27 seven in the last", x.excuses(0, 1, -1), 7);
        Due.doing(x, "BaCaDaEa");
        D.due("27 though it is jammed", x.excuses(0, 1, -1), 7);
        x.room(1, 4, 7);
        D.due("27 though it is full", x.excuses(0, 1, 1), 1);
    }

    private static void excusesOfSeveral() {
        KitchenDrift x = new KitchenDrift();
        x.rooms(6);
        x.guest(0, 0);
        x.door(0, 2, 1);
        x.door(2, 5, 1);
        x.door(1, 5, 1);
        D.due("27 b is as near to f, but has no door to a", x.excuses(0, 5, 1), 2);
        x.door(0, 3, 1);
        x.door(3, 5, 1);
        D.due("27 of as many the first by rooms", x.excuses(0, 5, 1), 2);
        x.guest(1, 2);
        D.due("27 fewer excuses", x.excuses(0, 5, 1), 3);
        x.guest(2, 3);
        x.door(0, 1, 1);
        x.guest(3, 1);
        D.due("27 of three as many the first by rooms", x.excuses(0, 5, 1), 1);
        x.door(0, 4, 1);
        x.door(3, 4, 1);
        x.door(0, 1, 0);
        x.door(0, 2, 0);
        x.door(0, 3, 0);
        D.due("27 one way, by e", x.excuses(0, 5, 1), 4);
        D.due("27 one way, by e, then d", x.excuses(0, 5, 2), 3);
        D.due("27 one way, by e, its excuses", x.excuses(0, 5, -1), 1);
        x.door(4, 5, 1);
        D.due("27 no excuse at all", x.excuses(0, 5, -1), 0);
        x.door(0, 5, 1);
        D.due("27 as many: fewer doors", x.excuses(0, 5, 1), 5);
    }
}
