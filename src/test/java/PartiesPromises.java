/** Promises 11 to 21: parties, and minutes that pass. */
public final class PartiesPromises {
    private static final Due D = new Due("PartiesPromises");

    public static void main(String[] args) {
        judge();
        judgeBusy();
        done();
        state();
        behind();
        draw();
        goes();
        after();
        minuteByTurn();
        jams();
        crowd();
        still();
        round();
        throng();
        D.end();
    }

    private static void judge() {
        KitchenDrift x = Due.flat();
        D.due("11 empty", Due.judged(x, ""), Due.NONE);
        D.due("11 what -1", x.judge(-1), Due.OUTSIDE);
        D.due("11 what 2", x.judge(2), Due.OUTSIDE);
        Due.write(x, "A");
        D.due("11 a fault", x.judge(0), Due.NO);
        D.due("11 a fault", x.judge(1), Due.NO);
        D.due("11 OUTSIDE ahead of NO", x.judge(2), Due.OUTSIDE);
        D.due("11 D is not there", Due.judged(x, "AD1"), 1);
        D.due("11 D is not there", Due.judged(x, "DE1"), 1);
        D.due("11 D sits", Due.judged(x, "D_"), 1);
        D.due("11 D stands up", Due.judged(x, "D^"), 1);
        D.due("11 D in a door", Due.judged(x, "Da"), 1);
        D.due("11 not busy", Due.judged(x, "A^"), 2);
        D.due("11 two rooms", Due.judged(x, "BC4"), 3);
        D.due("11 no chair", Due.judged(x, "A_"), 4);
        D.due("11 no door, own room", Due.judged(x, "Ab"), 5);
        D.due("11 no door", Due.judged(x, "Ca"), 5);
        D.due("11 no thing", Due.judged(x, "bc0"), 6);
        D.due("11 no thing of that sort", Due.judged(x, "ab1"), 6);
        D.due("11 one room", Due.judged(x, "aa0"), 6);
        D.due("11 five carried, no sixth", Due.judged(x, "ab0ac0ab0ac0ab0ab0"), 56);
        x.room(1, 0, 8);
        D.due("11 the tenth", Due.judged(x, "ab0ab0"), 16);
        D.due("11 carried away first", Due.judged(x, "ab0ba0ab0"), Due.NONE);
        D.due("11 nothing is done", x.told(20), 8);
    }

    private static void judgeBusy() {
        KitchenDrift x = Due.flat();
        x.room(1, 5, 1);
        D.due("11 one chair", Due.judged(x, "A_B_"), 14);
        D.due("11 one behind the other", Due.judged(x, "A_A^B_B^"), Due.NONE);
        D.due("11 sits already", Due.judged(x, "A_A_"), 12);
        D.due("11 sits, to the door", Due.judged(x, "A_Aa"), 12);
        D.due("11 sits, talks", Due.judged(x, "A_AB1"), 12);
        D.due("11 the other sits", Due.judged(x, "B_AB1"), 12);
        D.due("11 in the door, sits", Due.judged(x, "AaA_"), 12);
        D.due("11 talks, sits", Due.judged(x, "AB2.B_"), 22);
        D.due("11 talked, sits", Due.judged(x, "AB1.B_"), Due.NONE);
        D.due("11 talked, the other sits", Due.judged(x, "AB1.B_A_"), 34);
        D.due("11 BUSY ahead of rooms", Due.judged(x, "A_AC1"), 12);
        D.due("11 leaves off, both", Due.judged(x, "AB9B^A^"), 22);
        D.due("11 leaves off, both", Due.judged(x, "AB9A^AB3"), Due.NONE);
        D.due("11 both in one door", Due.judged(x, "AaBaA^B^"), Due.NONE);
        D.due("11 where they are by then", Due.judged(x, ".BC1"), Due.NONE);
        D.due("11 a minute is an event", Due.judged(x, "...AB1"), 33);
    }

    private static void done() {
        KitchenDrift x = Due.flat();
        D.due("12 empty", x.done(), 0);
        D.due("12 a fault", Due.doing(x, "ab"), Due.NO);
        D.due("12 can not be", Due.doing(x, "ab0D_"), Due.NO);
        D.due("12 nothing is done", x.told(10), 5);
        D.due("12 the pad stays", x.told(0), 5);
        D.due("12 done", Due.doing(x, "ab0ac0AB2.."), 5);
        D.due("12 the pad is empty", x.told(0), 0);
        D.due("12 carried", x.told(10), 3);
        D.due("12 carried", x.told(20), 1);
        D.due("12 carried", x.told(30), 1);
        D.due("12 talked out", x.state(0, 1), 0);
        D.due("12 talked out, with nobody", x.state(1, 2), Due.NONE);
        D.due("12 talked out, no minutes", x.state(1, 3), 0);
        D.due("12 stayed", x.state(0, 0), 1);
        D.due("12 a minute", Due.doing(x, "."), 1);
        D.due("12 he went", x.state(0, 0), 0);
        x.seen(1, 1);
        Due.doing(x, ".");
        D.due("12 sights stay", x.told(3), 1);
    }

    private static void state() {
        KitchenDrift x = Due.flat();
        x.room(2, 5, 1);
        D.due("13 not there, ahead of OUTSIDE", x.state(3, 9), Due.UNKNOWN);
        D.due("13 guest -1", x.state(-1, 0), Due.UNKNOWN);
        D.due("13 guest 8", x.state(8, 0), Due.UNKNOWN);
        D.due("13 what 4", x.state(0, 4), Due.OUTSIDE);
        D.due("13 what -1", x.state(0, -1), Due.OUTSIDE);
        int[] idle = {1, 0, Due.NONE, 0};
        int[] talksA = {1, 1, 1, 7};
        int[] talksB = {1, 1, 0, 7};
        int[] sits = {2, 2, Due.NONE, 0};
        int[] stands = {1, 3, 2, 0};
        for (int what = 0; what < 4; what++) {
            D.due("13 idle " + what, x.state(0, what), idle[what]);
        }
        Due.doing(x, "AB9..C_");
        for (int what = 0; what < 4; what++) {
            D.due("13 A talks " + what, x.state(0, what), talksA[what]);
            D.due("13 B talks " + what, x.state(1, what), talksB[what]);
            D.due("13 C sits " + what, x.state(2, what), sits[what]);
        }
        Due.doing(x, "B^BcB^");
        D.due("13 who steps out of the door to c does not make C stand up", x.state(2, 1), 2);
        Due.doing(x, "AB1A^Bc");
        for (int what = 0; what < 4; what++) {
            D.due("13 A idle " + what, x.state(0, what), idle[what]);
            D.due("13 B stands " + what, x.state(1, what), stands[what]);
        }
    }

    private static void behind() {
        KitchenDrift x = Due.flat();
        Due.write(x, ".");
        D.due("14 where", x.behind(0, 0), 0);
        D.due("14 where", x.behind(1, 0), 2);
        D.due("14 busy", x.behind(1, 1), 0);
        D.due("14 whom", x.behind(1, 2), Due.NONE);
        D.due("14 yet", x.behind(1, 3), 0);
        D.due("14 not done", x.state(0, 0), 1);
        D.due("14 the pad stays", x.told(0), 1);
        D.due("14 not there", x.behind(5, 0), Due.UNKNOWN);
        D.due("14 what 4", x.behind(0, 4), Due.OUTSIDE);
        D.due("14 what -1", x.behind(0, -1), Due.OUTSIDE);
        Due.write(x, "A");
        D.due("14 a fault", x.behind(0, 0), Due.NO);
        D.due("14 OUTSIDE ahead of NO", x.behind(0, 4), Due.OUTSIDE);
        D.due("14 UNKNOWN ahead of all", x.behind(8, 4), Due.UNKNOWN);
        Due.write(x, ".A^");
        D.due("14 can not be", x.behind(0, 0), Due.NO);
        Due.write(x, "");
        D.due("14 empty", x.behind(2, 0), 2);
        Due.write(x, "AB4Cb.");
        D.due("14 talks", x.behind(0, 3), 3);
        D.due("14 stands", x.behind(2, 1), 3);
        D.due("14 to", x.behind(2, 2), 1);
        Due.write(x, "Ba.");
        D.due("14 the door is jammed by then", x.behind(0, 0), 1);
        Due.write(x, "ac0ac0ac0.");
        D.due("14 the drinks are in c by then", x.behind(0, 0), 2);
    }

    private static void draw() {
        KitchenDrift x = new KitchenDrift();
        for (int g = 0; g < 8; g++) {
            x.guest(g, 0);
        }
        for (int sort = 0; sort < 4; sort++) {
            x.room(0, sort, 9);
            x.room(1, sort, sort + 1);
            x.likes(0, sort, 3);
            x.likes(1, sort, -3);
            x.likes(2, sort, sort - 1);
        }
        x.likes(0, 4, 3);
        x.likes(1, 4, -3);
        x.likes(2, 4, 1);
        D.due("15 the most", x.draw(0, 0), 1000 + 108 + 21);
        D.due("15 the least", x.draw(1, 0), 1000 - 108 - 21);
        D.due("15 -1, 0, 1, 2 by 1, 2, 3, 4", x.draw(2, 1), 1000 + 10);
        D.due("15 nothing there", x.draw(2, 2), 1000);
        x.guest(7, 1);
        D.due("15 one less", x.draw(0, 0), 1000 + 108 + 18);
        D.due("15 one there", x.draw(2, 1), 1000 + 11);
        D.due("15 no likes", x.draw(7, 0), 1000);
        D.due("15 room 3", x.draw(0, 3), Due.UNKNOWN);
        D.due("15 room -1", x.draw(0, -1), Due.UNKNOWN);
        D.due("15 guest 8", x.draw(8, 0), Due.UNKNOWN);
        x.leave(7);
        D.due("15 not there", x.draw(7, 0), Due.UNKNOWN);
        D.due("15 he left", x.draw(2, 1), 1000 + 10);
    }

    private static void goes() {
        KitchenDrift x = Due.flat();
        D.due("16 to the kitchen", x.goes(0), 0);
        D.due("16 as good, he stays", x.goes(1), 1);
        D.due("16 no door", x.goes(2), 2);
        D.due("16 not there", x.goes(3), Due.UNKNOWN);
        D.due("16 guest -1", x.goes(-1), Due.UNKNOWN);
        x.after(0, 1);
        D.due("16 nobody has gone yet, whatever was asked", x.goes(0), 0);
        x.room(2, 0, 5);
        D.due("16 of several the least", x.goes(0), 0);
        x.room(2, 0, 6);
        D.due("16 the greatest", x.goes(0), 2);
        x.room(2, 4, 1);
        D.due("16 it is full", x.goes(0), 0);
        Due.doing(x, "Ba");
        D.due("16 it is jammed", x.goes(0), 1);
        D.due("16 busy", x.goes(1), Due.STATE);
        x.door(0, 1, 2);
        D.due("16 so wide", x.goes(0), 0);
        Due.doing(x, "B^AB1");
        D.due("16 talks", x.goes(0), Due.STATE);
    }

    private static void after() {
        KitchenDrift x = Due.flat();
        D.due("17 now", x.after(0, 0), 1);
        D.due("17 one", x.after(0, 1), 0);
        D.due("17 follows", x.after(1, 1), 2);
        D.due("17 stays", x.after(2, 99), 2);
        D.due("17 m -1", x.after(0, -1), Due.OUTSIDE);
        D.due("17 m 100", x.after(0, 100), Due.OUTSIDE);
        D.due("17 not there, ahead of OUTSIDE", x.after(3, 100), Due.UNKNOWN);
        D.due("17 nothing is done", x.state(0, 0), 1);
        Due.write(x, "A_");
        D.due("17 the pad is not looked at", x.after(0, 1), 0);
        Due.doing(x, "AB2");
        D.due("17 talks", x.after(0, 2), 1);
        D.due("17 talked", x.after(0, 3), 0);
        D.due("17 talks yet", x.state(0, 3), 2);
    }

    /** A goes ahead of B, who then sees him there. */
    private static void minuteByTurn() {
        KitchenDrift x = new KitchenDrift();
        x.rooms(2);
        x.door(0, 1, 1);
        x.room(1, 3, 9);
        x.guest(0, 0);
        x.guest(1, 0);
        x.likes(0, 3, 1);
        x.likes(1, 3, 1);
        D.due("17 the first through", x.after(0, 1), 1);
        D.due("17 the second waits", x.after(1, 1), 0);
        D.due("17 the second a minute later", x.after(1, 2), 1);
        x.room(1, 4, 1);
        D.due("17 it is full", x.after(1, 9), 0);
        x.room(1, 4, 8);
        x.guest(2, 1);
        x.room(0, 0, 1);
        x.likes(2, 0, 1);
        D.due("17 either way: the door has been used", x.after(2, 1), 1);
        D.due("17 B, then C", x.after(2, 2), 1);
        D.due("17 C last", x.after(2, 3), 0);
        x.door(0, 1, 2);
        D.due("17 wider: B too, not C", x.after(2, 1), 1);
        D.due("17 wider: B too", x.after(1, 1), 1);
        x.door(0, 1, 3);
        D.due("17 widest: C too", x.after(2, 1), 0);
    }

    /** Those who stand in a door jam it, from either side, together. */
    private static void jams() {
        KitchenDrift x = new KitchenDrift();
        x.rooms(2);
        x.door(0, 1, 3);
        x.room(1, 2, 1);
        for (int g = 0; g < 5; g++) {
            x.guest(g, 0);
            x.likes(g, 2, 3);
        }
        x.guest(5, 1);
        D.due("17 three go", x.crowd(1, 1), 7 + 32);
        Due.doing(x, "Ab");
        D.due("17 one stands, two go", x.crowd(1, 1), 6 + 32);
        Due.doing(x, "Fa");
        D.due("17 two stand, one goes", x.crowd(1, 1), 2 + 32);
        Due.doing(x, "Eb");
        D.due("17 three stand", x.crowd(1, 9), 32);
        Due.doing(x, "Db");
        D.due("17 four stand", x.crowd(1, 9), 32);
        x.door(0, 1, 1);
        D.due("17 wide 1, four stand", x.goes(1), 0);
    }

    private static void crowd() {
        KitchenDrift x = Due.flat();
        D.due("18 now", x.crowd(1, 0), 3);
        D.due("18 one", x.crowd(1, 1), 0);
        D.due("18 one", x.crowd(0, 1), 1);
        D.due("18 one", x.crowd(2, 1), 6);
        D.due("18 m 99", x.crowd(2, 99), 6);
        D.due("18 m 100", x.crowd(0, 100), Due.OUTSIDE);
        D.due("18 m -1", x.crowd(0, -1), Due.OUTSIDE);
        D.due("18 room 3, ahead of OUTSIDE", x.crowd(3, 100), Due.UNKNOWN);
        D.due("18 room -1", x.crowd(-1, 0), Due.UNKNOWN);
        x.guest(7, 2);
        D.due("18 H", x.crowd(2, 1), 134);
    }

    private static void still() {
        KitchenDrift x = Due.flat();
        D.due("19 the second", x.still(), 2);
        Due.doing(x, "AB9");
        D.due("19 nine to talk, one to go", x.still(), 11);
        Due.doing(x, "A^.");
        D.due("19 at once", x.still(), 1);
        Due.doing(x, "BC9");
        D.due("19 while they talk it is not", x.still(), 10);
        D.due("19 nobody", new KitchenDrift().still(), 1);
        D.due("19 never", chase().still(), Due.NONE);
    }

    /** A flees, B follows. */
    private static KitchenDrift chase() {
        KitchenDrift x = new KitchenDrift();
        x.door(0, 1, 3);
        x.guest(0, 0);
        x.guest(1, 0);
        x.likes(0, 4, -1);
        x.likes(1, 4, 1);
        return x;
    }

    private static void round() {
        D.due("20 still", Due.flat().round(), Due.NONE);
        D.due("20 nobody", new KitchenDrift().round(), Due.NONE);
        KitchenDrift x = chase();
        D.due("20 to and fro", x.round(), 2);
        x.guest(2, 2);
        x.guest(3, 2);
        Due.doing(x, "CD9");
        D.due("20 two minutes, when they have talked", x.round(), 2);
        x.room(2, 0, 1);
        x.door(1, 2, 3);
        x.door(0, 2, 3);
        x.room(2, 4, 4);
        D.due("20 B finds others", x.round(), Due.NONE);
        D.due("20 B finds others", x.still(), 10);
        D.due("20 not changed", x.state(2, 3), 9);
    }

    private static void throng() {
        KitchenDrift x = Due.flat();
        D.due("21 m 0", x.throng(0), Due.OUTSIDE);
        D.due("21 m 100", x.throng(100), Due.OUTSIDE);
        D.due("21 one", x.throng(1), 2);
        D.due("21 all the while", x.throng(99), 2);
        D.due("21 nobody", new KitchenDrift().throng(5), 0);
        KitchenDrift y = new KitchenDrift();
        y.door(0, 1, 3);
        y.room(1, 0, 1);
        y.guest(0, 0);
        y.guest(1, 0);
        y.likes(0, 0, 1);
        D.due("21 they part: now is not looked at", y.throng(1), 1);
        y.likes(1, 4, 1);
        D.due("21 they do not", y.throng(1), 2);
        y.likes(0, 4, -3);
        D.due("21 alone in between", y.throng(9), 2);
    }
}
