/** Promises 1 to 10 at the edges that their sentences and the Terms name: a test each. */
public final class RoomsEdges {
    private static final Due D = new Due("RoomsEdges");
    private static final int LEAST = Integer.MIN_VALUE, MOST = Integer.MAX_VALUE;

    public static void main(String[] args) {
        objectsShareNothing();
        noFourthRoomAtFirst();
        tooFewRooms();
        tooManyRooms();
        fewestRooms();
        mostRooms();
        sameNumberOfRooms();
        fewerRoomsThenMoreAgain();
        roomsLeaveThePadAndImages();
        noSuchRoom();
        noSuchMeasure();
        measuresTooSmallAndTooLarge();
        sizeBelowThoseThere();
        chairsBelowThoseWhoSit();
        thingsAreNeverRefusedForGuests();
        widthsTooSmallAndTooLarge();
        noSuchDoor();
        doorWithSomebodyInIt();
        doorNarrowerThanThoseInIt();
        doorLeftByWhoStoodInIt();
        noSuchGuest();
        fullRoom();
        anewInAFullRoom();
        anewIsAsAtFirst();
        refusedAnewIsAsHeWas();
        likesTooSmallAndTooLarge();
        likesOfNobody();
        leaveOfNobody();
        leaveOfTheLast();
        leaveFreesWhatHeHeld();
        signsTooSmallAndTooLarge();
        padFull();
        wipeEmptyAndFull();
        faultOfNothing();
        faultBySign();
        faultAtTheLastSign();
        faultByRoomsThatAre();
        D.end();
    }

    // ---- promise 1

    private static void objectsShareNothing() {
        KitchenDrift x = Due.flat();
        x.room(2, 4, 1);
        x.seen(0, 0);
        x.say('.');
        x.image(0);
        KitchenDrift y = new KitchenDrift();
        D.due("1 another new object has no things", y.told(10), 0);
        D.due("1 another new object has no door", y.told(101), 0);
        D.due("1 another new object has nobody", y.told(2), 0);
        D.due("1 another new object has its size", y.told(34), 8);
        D.due("1 another new object has no sights", y.told(3), 0);
        D.due("1 another new object has no signs", y.told(0), 0);
        D.due("1 another new object has no image", y.restore(0), Due.STATE);
        y.guest(7, 2);
        D.due("1 the first is not changed by it", x.told(2), 7);
    }

    private static void noFourthRoomAtFirst() {
        KitchenDrift x = new KitchenDrift();
        D.due("1 the third room is", x.guest(0, 2), 1);
        D.due("1 a fourth is not", x.guest(0, 3), Due.UNKNOWN);
        D.due("1 d is no room", Due.fault(x, "d"), 0);
        D.due("1 c is one", Due.fault(x, "cc0"), Due.NONE);
    }

    // ---- promise 2

    private static void tooFewRooms() {
        for (int n : new int[] {1, 0, -1, -6, LEAST}) {
            D.due("2 rooms(" + n + ")", new KitchenDrift().rooms(n), Due.OUTSIDE);
        }
    }

    private static void tooManyRooms() {
        for (int n : new int[] {7, 8, 258, 65538, MOST}) {
            D.due("2 rooms(" + n + ")", new KitchenDrift().rooms(n), Due.OUTSIDE);
        }
    }

    /** Each call that names a ROOM knows the last one and not the one behind it. */
    private static void lastRoomIs(KitchenDrift x, int rooms) {
        int last = rooms - 1;
        String name = "2 of " + rooms + " rooms ";
        x.guest(0, 0);
        D.due(name + "the last has a size", x.room(last, 4, 8), 8);
        D.due(name + "no more has", x.room(rooms, 4, 8), Due.UNKNOWN);
        D.due(name + "the last may have a door", x.door(0, last, 1), 0);
        D.due(name + "no more may", x.door(0, rooms, 1), Due.UNKNOWN);
        D.due(name + "no more may, said first", x.door(rooms, 0, 1), Due.UNKNOWN);
        D.due(name + "one comes to the last", x.guest(1, last), 2);
        D.due(name + "none to one more", x.guest(2, rooms), Due.UNKNOWN);
        D.due(name + "the last draws", x.draw(0, last), 1000);
        D.due(name + "no more does", x.draw(0, rooms), Due.UNKNOWN);
        D.due(name + "the last is counted", x.crowd(last, 0), 2);
        D.due(name + "no more is", x.crowd(rooms, 0), Due.UNKNOWN);
        D.due(name + "one may be led to the last", x.led(last, 1, 0, 0), 0);
        D.due(name + "to no more", x.led(rooms, 1, 0, 0), Due.UNKNOWN);
        D.due(name + "one gets to the last", x.excuses(0, last, -1), 1);
        D.due(name + "to no more", x.excuses(0, rooms, -1), Due.UNKNOWN);
        D.due(name + "one was seen to go to the last", x.seen(0, last), 1);
        D.due(name + "to no more", x.seen(0, rooms), Due.UNKNOWN);
        D.due(name + "the drunk one gets to the last", x.drunk(0, last, 0, 1, 0), 1);
        D.due(name + "to no more", x.drunk(0, rooms, 0, 1, 0), KitchenDrift.LOST + Due.UNKNOWN);
        D.due(name + "the last is told", x.told(10 * (1 + last) + 4), 8);
        D.due(name + "no more is", x.told(10 * (1 + rooms) + 4), Due.OUTSIDE);
        D.due(name + "the last door is told", x.told(100 * (1 + last)), 1);
        D.due(name + "no more is", x.told(100 * (1 + rooms)), Due.OUTSIDE);
        D.due(name + "no more is, the other way", x.told(100 + rooms), Due.OUTSIDE);
        String letter = "" + (char) ('a' + last);
        String next = "" + (char) ('a' + rooms);
        D.due(name + "the last letter", Due.fault(x, "A" + letter + letter + "a0a" + letter + "1"), Due.NONE);
        D.due(name + "no letter more, in a door", Due.fault(x, "A" + next), 1);
        D.due(name + "no letter more, first", Due.fault(x, next + "a0"), 0);
        D.due(name + "no letter more, second", Due.fault(x, "a" + next), 1);
    }

    private static void fewestRooms() {
        KitchenDrift x = new KitchenDrift();
        D.due("2 two rooms", x.rooms(2), 3);
        lastRoomIs(x, 2);
    }

    private static void mostRooms() {
        KitchenDrift x = new KitchenDrift();
        D.due("2 six rooms", x.rooms(6), 3);
        lastRoomIs(x, 6);
    }

    private static void sameNumberOfRooms() {
        KitchenDrift x = Due.flat();
        x.seen(0, 0);
        D.due("2 three again", x.rooms(3), 3);
        D.due("2 three again, nobody is there", x.told(2), 0);
        D.due("2 three again, no things", x.told(10), 0);
        D.due("2 three again, no door", x.told(101), 0);
        D.due("2 three again, no sights", x.told(3), 0);
    }

    private static void fewerRoomsThenMoreAgain() {
        KitchenDrift x = Due.open(6, 3);
        for (int what = 0; what < 6; what++) {
            x.room(5, what, 9);
        }
        x.guest(7, 5);
        x.likes(7, 4, 3);
        Due.doing(x, "H_");
        x.rooms(2);
        x.rooms(6);
        for (int what = 0; what < 6; what++) {
            D.due("2 the sixth room as at first, " + what, x.told(60 + what), what == 4 ? 8 : 0);
        }
        for (int other = 0; other < 5; other++) {
            D.due("2 the sixth room's doors as at first", x.told(600 + other), 0);
        }
        x.guest(7, 5);
        D.due("2 he who comes again likes nothing", x.told(8004), 10);
        D.due("2 he who comes again does not sit", x.state(7, 1), 0);
    }

    private static void roomsLeaveThePadAndImages() {
        KitchenDrift x = Due.flat();
        x.image(0);
        x.leave(0);
        x.image(1);
        Due.write(x, "ac0");
        x.rooms(2);
        D.due("2 the pad stays", x.told(0), 3);
        D.due("2 c is no room now", x.fault(), 1);
        x.rooms(3);
        D.due("2 c is one again", x.fault(), Due.NONE);
        D.due("2 image 0 stays", x.restore(0) * 10 + x.told(2), 17);
        D.due("2 image 1 stays", x.restore(1) * 10 + x.told(2), 16);
    }

    // ---- promise 3

    private static void noSuchRoom() {
        KitchenDrift x = new KitchenDrift();
        for (int room : new int[] {3, -1, 6, 256, LEAST, MOST}) {
            D.due("3 room(" + room + ", ..)", x.room(room, 0, 0), Due.UNKNOWN);
            D.due("3 room(" + room + ", ..) ahead of OUTSIDE", x.room(room, 6, 10), Due.UNKNOWN);
        }
    }

    private static void noSuchMeasure() {
        KitchenDrift x = new KitchenDrift();
        for (int what : new int[] {-1, 6, 7, LEAST, MOST}) {
            D.due("3 room(0, " + what + ", 1)", x.room(0, what, 1), Due.OUTSIDE);
        }
        D.due("3 the next room's first is not touched", x.told(20), 0);
    }

    private static void measuresTooSmallAndTooLarge() {
        for (int what = 0; what < 6; what++) {
            KitchenDrift x = new KitchenDrift();
            int least = what == 4 ? 1 : 0;
            int first = what == 4 ? 8 : 0;
            String name = "3 measure " + what + " of ";
            for (int v : new int[] {least - 1, -9, LEAST, 10, 265, MOST}) {
                D.due(name + v, x.room(1, what, v), Due.OUTSIDE);
                D.due(name + v + ", nothing is changed", x.told(20 + what), first);
            }
            D.due(name + "the most", x.room(1, what, 9), first);
            D.due(name + "the least", x.room(1, what, least), 9);
            D.due(name + "the least, told", x.told(20 + what), least);
            D.due(name + "the same again", x.room(1, what, least), least);
        }
    }

    private static void sizeBelowThoseThere() {
        KitchenDrift x = Due.come(new KitchenDrift(), 8, 2);
        D.due("3 eight are there, 7", x.room(2, 4, 7), Due.STATE);
        D.due("3 eight are there, 1", x.room(2, 4, 1), Due.STATE);
        D.due("3 eight are there, 0", x.room(2, 4, 0), Due.OUTSIDE);
        D.due("3 eight are there, 8", x.room(2, 4, 8), 8);
        D.due("3 eight are there, 9", x.room(2, 4, 9), 8);
        D.due("3 none is in another", x.room(1, 4, 1), 8);
        x.leave(3);
        D.due("3 seven are there, 7", x.room(2, 4, 7), 9);
        for (int g = 1; g < 8; g++) {
            x.leave(g);
        }
        D.due("3 one is there, 1", x.room(2, 4, 1), 7);
    }

    private static void chairsBelowThoseWhoSit() {
        KitchenDrift x = Due.open(3, 3);
        Due.come(x, 8, 0);
        x.room(0, 5, 9);
        x.room(1, 5, 2);
        x.guest(7, 1);
        Due.doing(x, "A_B_C_DE9FbH_");
        D.due("3 three sit, a fourth elsewhere, 2", x.room(0, 5, 2), Due.STATE);
        D.due("3 three sit, 0", x.room(0, 5, 0), Due.STATE);
        D.due("3 three sit, -1", x.room(0, 5, -1), Due.OUTSIDE);
        D.due("3 three sit, 3, others talk and stand", x.room(0, 5, 3), 9);
        D.due("3 one sits elsewhere, 0", x.room(1, 5, 0), Due.STATE);
        D.due("3 one sits elsewhere, 1", x.room(1, 5, 1), 2);
        D.due("3 nobody sits in the third", x.room(2, 5, 0), 0);
        x.leave(0);
        D.due("3 one of them left, 2", x.room(0, 5, 2), 3);
        x.guest(1, 0);
        D.due("3 one of them came anew, 1", x.room(0, 5, 1), 2);
        Due.doing(x, "C^");
        D.due("3 the last stood up, 0", x.room(0, 5, 0), 1);
    }

    private static void thingsAreNeverRefusedForGuests() {
        KitchenDrift x = Due.come(new KitchenDrift(), 8, 0);
        x.room(0, 5, 8);
        Due.doing(x, "A_B_C_D_E_F_G_H_");
        for (int sort = 0; sort < 4; sort++) {
            D.due("3 things where eight sit", x.room(0, sort, 0), 0);
        }
    }

    // ---- promise 4

    private static void widthsTooSmallAndTooLarge() {
        KitchenDrift x = new KitchenDrift();
        for (int width : new int[] {-1, -3, LEAST, 4, 257, MOST}) {
            D.due("4 width " + width, x.door(0, 1, width), Due.OUTSIDE);
            D.due("4 width " + width + ", there is none yet", x.told(101), 0);
        }
        D.due("4 the first", x.door(0, 1, 1), 0);
        D.due("4 the widest", x.door(0, 1, 3), 1);
        D.due("4 none", x.door(0, 1, 0), 3);
        D.due("4 none again", x.door(0, 1, 0), 0);
    }

    private static void noSuchDoor() {
        KitchenDrift x = new KitchenDrift();
        for (int room : new int[] {3, -1, LEAST, MOST}) {
            D.due("4 door(" + room + ", 0, 1)", x.door(room, 0, 1), Due.UNKNOWN);
            D.due("4 door(0, " + room + ", 1)", x.door(0, room, 1), Due.UNKNOWN);
            D.due("4 door(0, " + room + ", 4), ahead of OUTSIDE", x.door(0, room, 4), Due.UNKNOWN);
        }
        for (int room = 0; room < 3; room++) {
            D.due("4 both are one", x.door(room, room, 0), Due.UNKNOWN);
            D.due("4 both are one, ahead of OUTSIDE", x.door(room, room, 4), Due.UNKNOWN);
        }
    }

    private static void doorWithSomebodyInIt() {
        KitchenDrift x = Due.open(3, 3);
        x.guest(0, 1);
        Due.doing(x, "Ac");
        D.due("4 it would be gone", x.door(1, 2, 0), Due.STATE);
        D.due("4 it would be gone, said the other way", x.door(2, 1, 0), Due.STATE);
        D.due("4 it is yet", x.told(202), 3);
        D.due("4 OUTSIDE ahead of STATE", x.door(2, 1, 4), Due.OUTSIDE);
        D.due("4 it would not be gone", x.door(1, 2, 1), 3);
        D.due("4 another one of his room", x.door(0, 1, 0), 3);
        D.due("4 another one of that room", x.door(0, 2, 0), 3);
    }

    private static void doorNarrowerThanThoseInIt() {
        KitchenDrift x = Due.open(2, 3);
        Due.come(x, 4, 0);
        x.room(1, 0, 1);
        x.likes(3, 0, 1);
        Due.doing(x, "AbBb");
        D.due("4 two in it, three wide: he goes", x.goes(3), 1);
        D.due("4 to two", x.door(0, 1, 2), 3);
        D.due("4 two in it, two wide: he stays", x.goes(3), 0);
        D.due("4 to one", x.door(0, 1, 1), 2);
        D.due("4 two in it, one wide: he stays", x.goes(3), 0);
        D.due("4 to none", x.door(0, 1, 0), Due.STATE);
    }

    private static void doorLeftByWhoStoodInIt() {
        KitchenDrift x = Due.open(2, 1);
        Due.come(x, 3, 0);
        Due.doing(x, "AbBbCb");
        x.leave(0);
        D.due("4 one left", x.door(0, 1, 0), Due.STATE);
        x.guest(1, 0);
        D.due("4 one came anew", x.door(0, 1, 0), Due.STATE);
        Due.doing(x, "C^");
        D.due("4 one stepped out", x.door(0, 1, 0), 1);
    }

    // ---- promise 5

    private static void noSuchGuest() {
        KitchenDrift x = new KitchenDrift();
        for (int guest : new int[] {-1, 8, 32, LEAST, MOST}) {
            D.due("5 guest(" + guest + ", 0)", x.guest(guest, 0), Due.UNKNOWN);
        }
        for (int room : new int[] {-1, 3, LEAST, MOST}) {
            D.due("5 guest(0, " + room + ")", x.guest(0, room), Due.UNKNOWN);
        }
        D.due("5 nobody came", x.told(2), 0);
        D.due("5 the first", x.guest(0, 0), 1);
        D.due("5 the last", x.guest(7, 0), 2);
    }

    private static void fullRoom() {
        KitchenDrift x = new KitchenDrift();
        x.room(1, 4, 1);
        D.due("5 the one there is room for", x.guest(4, 1), 1);
        D.due("5 a second", x.guest(5, 1), Due.FULL);
        D.due("5 a second is not there", x.told(2), 16);
        D.due("5 no guest, ahead of FULL", x.guest(8, 1), Due.UNKNOWN);
        D.due("5 elsewhere", x.guest(5, 0), 2);
        D.due("5 from elsewhere", x.guest(5, 1), Due.FULL);
        D.due("5 he is yet where he was", x.state(5, 0), 0);
        x.room(1, 4, 2);
        D.due("5 there is room now", x.guest(5, 1), 2);
        D.due("5 he came", x.state(5, 0), 1);
        KitchenDrift y = new KitchenDrift();
        for (int g = 0; g < 8; g++) {
            D.due("5 eight find room at first", y.guest(g, 0), g + 1);
        }
    }

    private static void anewInAFullRoom() {
        KitchenDrift x = new KitchenDrift();
        x.room(1, 4, 1);
        x.guest(4, 1);
        x.likes(4, 2, 2);
        D.due("5 anew where he alone fills it", x.guest(4, 1), 1);
        D.due("5 anew, likes as at first", x.told(5002), 10);
    }

    private static void anewIsAsAtFirst() {
        KitchenDrift x = Due.open(2, 1);
        Due.come(x, 3, 0);
        x.room(0, 5, 1);
        for (int sort = 0; sort < 5; sort++) {
            x.likes(0, sort, -3);
        }
        Due.doing(x, "A_");
        x.guest(0, 0);
        for (int sort = 0; sort < 5; sort++) {
            D.due("5 anew, likes", x.told(1000 + sort), 10);
        }
        D.due("5 anew, he does not sit", x.state(0, 1), 0);
        D.due("5 anew, his chair is free", Due.doing(x, "B_B^"), 2);
        Due.doing(x, "Ab");
        x.guest(0, 0);
        D.due("5 anew, he stands in no door", x.state(0, 2), Due.NONE);
        Due.doing(x, "AC9");
        x.guest(2, 0);
        D.due("5 anew, with whom he talked is not busy", x.state(0, 1), 0);
        D.due("5 anew, with whom he talked has no minutes yet", x.state(0, 3), 0);
        D.due("5 anew, they can talk again", Due.doing(x, "AC1"), 1);
    }

    private static void refusedAnewIsAsHeWas() {
        KitchenDrift x = Due.open(2, 1);
        Due.come(x, 2, 0);
        x.room(1, 4, 1);
        x.guest(2, 1);
        x.likes(0, 3, 2);
        Due.doing(x, "AB5");
        D.due("5 anew, full", x.guest(0, 1), Due.FULL);
        D.due("5 refused, his likes", x.told(1003), 12);
        D.due("5 refused, he talks", x.state(0, 3), 5);
        D.due("5 refused, the other, too", x.state(1, 3), 5);
    }

    // ---- promises 6 and 7

    private static void likesTooSmallAndTooLarge() {
        KitchenDrift x = new KitchenDrift();
        x.guest(7, 0);
        for (int sort = 0; sort < 5; sort++) {
            for (int v : new int[] {-4, 4, 10, 253, LEAST, MOST}) {
                D.due("6 likes of " + v, x.likes(7, sort, v), Due.OUTSIDE);
                D.due("6 likes of " + v + ", nothing is changed", x.told(8000 + sort), 10);
            }
            D.due("6 the least", x.likes(7, sort, -3), 10);
            D.due("6 the most", x.likes(7, sort, 3), 7);
            D.due("6 none", x.likes(7, sort, 0), 13);
        }
        for (int sort : new int[] {-1, 5, LEAST, MOST}) {
            D.due("6 sort " + sort, x.likes(7, sort, 1), Due.OUTSIDE);
        }
    }

    private static void likesOfNobody() {
        KitchenDrift x = new KitchenDrift();
        x.guest(3, 0);
        for (int guest : new int[] {-1, 0, 2, 4, 7, 8, 35, LEAST, MOST}) {
            D.due("6 likes of guest " + guest, x.likes(guest, 0, 1), Due.UNKNOWN);
            D.due("6 likes of guest " + guest + ", ahead of OUTSIDE", x.likes(guest, 5, 4), Due.UNKNOWN);
        }
    }

    private static void leaveOfNobody() {
        KitchenDrift x = new KitchenDrift();
        x.guest(3, 0);
        for (int guest : new int[] {-1, 0, 2, 4, 7, 8, 35, LEAST, MOST}) {
            D.due("7 leave(" + guest + ")", x.leave(guest), Due.UNKNOWN);
        }
        D.due("7 he who is there stays", x.told(2), 8);
    }

    private static void leaveOfTheLast() {
        KitchenDrift x = Due.come(new KitchenDrift(), 8, 0);
        for (int g = 7; g >= 0; g--) {
            D.due("7 how many are there then", x.leave(g), g);
        }
        D.due("7 nobody", x.told(2), 0);
        D.due("7 the last, again", x.leave(0), Due.UNKNOWN);
    }

    private static void leaveFreesWhatHeHeld() {
        KitchenDrift x = Due.open(2, 1);
        x.room(0, 4, 2);
        x.room(0, 5, 1);
        x.guest(0, 0);
        x.guest(1, 0);
        Due.doing(x, "A_");
        x.leave(0);
        D.due("7 his place is free", x.guest(2, 0), 2);
        D.due("7 his chair is free", Due.doing(x, "C_"), 1);
        Due.doing(x, "C^BC7");
        x.leave(2);
        D.due("7 the other is not busy", x.goes(1), 0);
        D.due("7 the other can sit", Due.doing(x, "B_"), 1);
        x.seen(1, 1);
        x.leave(1);
        D.due("7 what was seen of him stays", x.told(3), 1);
    }

    // ---- promises 8 and 9

    private static void signsTooSmallAndTooLarge() {
        KitchenDrift x = new KitchenDrift();
        for (int sign : new int[] {32, 0, -1, 10, 127, 128, 'A' + 256, 'A' + 65536, 'A' - 256, LEAST, MOST}) {
            D.due("8 say(" + sign + ")", x.say(sign), Due.OUTSIDE);
        }
        D.due("8 nothing was said", x.told(0), 0);
        for (int sign = 33; sign <= 126; sign++) {
            D.due("8 say(" + sign + ")", new KitchenDrift().say(sign), 1);
        }
    }

    private static void padFull() {
        KitchenDrift x = new KitchenDrift();
        for (int n = 1; n <= 60; n++) {
            D.due("8 so many", x.say('.'), n);
        }
        D.due("8 one more", x.say('.'), Due.FULL);
        D.due("8 one more, no sign", x.say(32), Due.OUTSIDE);
        D.due("8 one more, wrong", x.say('?'), Due.FULL);
        D.due("8 sixty it stays", x.told(0), 60);
        D.due("8 as they were", x.fault(), Due.NONE);
    }

    private static void wipeEmptyAndFull() {
        KitchenDrift x = new KitchenDrift();
        D.due("9 nothing", x.wipe(), 0);
        Due.write(x, "?".repeat(61));
        D.due("9 sixty", x.wipe(), 60);
        D.due("9 nothing now", x.wipe(), 0);
        D.due("9 there is room", x.say('.'), 1);
        D.due("9 the old ones are gone", x.fault(), Due.NONE);
    }

    // ---- promise 10

    private static void faultOfNothing() {
        D.due("10 no signs", new KitchenDrift().fault(), Due.NONE);
    }

    /** Behind each beginning, every sign there is: what ends an EVENT, what leaves one open, and what can not stand. */
    private static void faultBySign() {
        for (int rooms : new int[] {2, 3, 6}) {
            String letters = "abcdef".substring(0, rooms);
            bySign(rooms, "", ".", "ABCDEFGH" + letters);
            bySign(rooms, "A", "_^" + letters, "BCDEFGH");
            bySign(rooms, "D", "_^" + letters, "EFGH");
            bySign(rooms, "G", "_^" + letters, "H");
            bySign(rooms, "H", "_^" + letters, "");
            bySign(rooms, "AB", "123456789", "");
            bySign(rooms, "GH", "123456789", "");
            bySign(rooms, "a", "", letters);
            bySign(rooms, "b", "", letters);
            bySign(rooms, "ab", "0123", "");
            bySign(rooms, "bb", "0123", "");
            bySign(rooms, "AB1", ".", "ABCDEFGH" + letters);
            bySign(rooms, "A_", ".", "ABCDEFGH" + letters);
            bySign(rooms, "Ba", ".", "ABCDEFGH" + letters);
            bySign(rooms, "ab3", ".", "ABCDEFGH" + letters);
        }
    }

    private static void bySign(int rooms, String start, String ends, String opens) {
        for (char sign = 33; sign <= 126; sign++) {
            KitchenDrift x = new KitchenDrift();
            x.rooms(rooms);
            int due = ends.indexOf(sign) >= 0 ? Due.NONE : opens.indexOf(sign) >= 0 ? start.length() + 1 : start.length();
            D.due("10 of " + rooms + " rooms, " + start + sign, Due.fault(x, start + sign), due);
        }
    }

    private static void faultAtTheLastSign() {
        KitchenDrift x = new KitchenDrift();
        D.due("10 the sixtieth can not stand there", Due.fault(x, ".".repeat(59) + "?"), 59);
        D.due("10 the sixtieth asks for more", Due.fault(x, ".".repeat(59) + "H"), 60);
        D.due("10 two of three, more must come", Due.fault(x, ".".repeat(58) + "ab"), 60);
        D.due("10 the sixtieth ends it", Due.fault(x, ".".repeat(57) + "ab0"), Due.NONE);
        D.due("10 of two the first", Due.fault(x, "?" + ".".repeat(58) + "?"), 0);
        D.due("10 ahead of what must come", Due.fault(x, "A?A"), 1);
    }

    private static void faultByRoomsThatAre() {
        KitchenDrift x = new KitchenDrift();
        Due.write(x, "AfA^ef3");
        int[] due = {1, 1, 1, 1, Due.NONE};
        for (int rooms = 2; rooms <= 6; rooms++) {
            x.rooms(rooms);
            D.due("10 in a door to f, of " + rooms, x.fault(), due[rooms - 2]);
        }
        int[] carry = {0, 0, 1, Due.NONE, Due.NONE};
        for (int rooms = 2; rooms <= 6; rooms++) {
            x.rooms(rooms);
            D.due("10 no digit behind two rooms, of " + rooms, Due.fault(x, "aade3"), 2);
            D.due("10 from d to e, of " + rooms, Due.fault(x, "de3"), carry[rooms - 2]);
        }
    }
}
