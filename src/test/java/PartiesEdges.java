/** Promises 11 to 21 at the edges that their sentences and the Terms name: a test each. */
public final class PartiesEdges {
    private static final Due D = new Due("PartiesEdges");
    private static final int LEAST = Integer.MIN_VALUE, MOST = Integer.MAX_VALUE;

    public static void main(String[] args) {
        judgeOfNothing();
        judgeRefused();
        judgeTheFirstEvent();
        judgeTheLastEvent();
        notThere();
        busyAlready();
        notBusy();
        notInOneRoom();
        chairs();
        doors();
        carrying();
        leastReason();
        talksEnd();
        judgeChangesNothing();
        doneOfNothing();
        doneOfSixty();
        doneRefused();
        stateRefused();
        stateOfEachKind();
        behindRefused();
        behindOfNothing();
        drawFarthest();
        drawRefused();
        goesOnlyForMore();
        goesToTheLeast();
        goesWhereThereIsRoom();
        goesThroughWhatIsWide();
        goesRefused();
        afterRefused();
        afterNoneAndMost();
        asManyAsAreWide();
        eitherWay();
        placesByTurn();
        doorsUsedAnewEachMinute();
        crowdEdges();
        stillFirst();
        stillBehindTalks();
        stillLast();
        roundRefused();
        roundBusy();
        roundOfTwoChases();
        roundWhenTheyHaveTalked();
        roundLast();
        throngRefused();
        throngOfEnds();
        D.end();
    }

    // ---- promise 11

    private static void judgeOfNothing() {
        KitchenDrift x = new KitchenDrift();
        D.due("11 no signs", x.judge(0), Due.NONE);
        D.due("11 no signs, why", x.judge(1), Due.NONE);
    }

    private static void judgeRefused() {
        KitchenDrift x = new KitchenDrift();
        for (int what : new int[] {-1, 2, LEAST, MOST}) {
            D.due("11 judge(" + what + ")", Due.write(x, "").judge(what), Due.OUTSIDE);
            D.due("11 judge(" + what + ") ahead of NO", Due.write(x, "A").judge(what), Due.OUTSIDE);
        }
        for (int what = 0; what < 2; what++) {
            D.due("11 more must come", Due.write(x, "AB").judge(what), Due.NO);
            D.due("11 a sign that can not stand", Due.write(x, "..?").judge(what), Due.NO);
            D.due("11 a fault behind what can not be", Due.write(x, "A_?").judge(what), Due.NO);
            D.due("11 no such room", Due.write(x, "Ad").judge(what), Due.NO);
        }
    }

    private static void judgeTheFirstEvent() {
        KitchenDrift x = Due.flat();
        D.due("11 the first of all", Due.judged(x, "A_"), 4);
        D.due("11 the first of two that can not be", Due.judged(x, ".H_A_"), 11);
        D.due("11 events, not signs", Due.judged(x, "AB1ab0Cb.A^"), 42);
    }

    private static void judgeTheLastEvent() {
        KitchenDrift x = Due.flat();
        D.due("11 the last of sixty signs", Due.judged(x, ".".repeat(58) + "A^"), 582);
        D.due("11 sixty minutes", Due.judged(x, ".".repeat(60)), Due.NONE);
        D.due("11 the thirtieth of two signs", Due.judged(x, "AaA^".repeat(14) + "AaAa"), 292);
        D.due("11 the twentieth of three signs", Due.judged(x, "ab0ba0".repeat(9) + "ab0aa0"), 196);
    }

    private static void notThere() {
        KitchenDrift x = Due.flat();
        D.due("11 the first is not there", Due.judged(x, "DE1"), 1);
        D.due("11 the second is not there", Due.judged(x, "AH1"), 1);
        D.due("11 nobody sits", Due.judged(x, "H_"), 1);
        D.due("11 nobody stands up", Due.judged(x, "H^"), 1);
        D.due("11 nobody stands in a door", Due.judged(x, "Ha"), 1);
        x.guest(7, 1);
        D.due("11 he is there now", Due.judged(x, "AH1"), Due.NONE);
        x.leave(0);
        D.due("11 the other is not there now", Due.judged(x, "AH1"), 1);
    }

    private static void busyAlready() {
        KitchenDrift x = Due.flat();
        x.guest(2, 1);
        x.room(1, 5, 9);
        for (String first : new String[] {"AB9", "A_", "Aa"}) {
            for (String second : new String[] {"AB1", "AC1", "A_", "Aa", "Ac"}) {
                D.due("11 busy: " + first + " " + second, Due.judged(x, first + second), 12);
                D.due("11 busy no more: " + first + " " + second, Due.judged(x, first + "A^" + second), Due.NONE);
            }
        }
        for (String first : new String[] {"BC9", "C_", "Ca"}) {
            D.due("11 busy, the second of two: " + first, Due.judged(x, first + "AC1"), 12);
        }
    }

    private static void notBusy() {
        KitchenDrift x = Due.flat();
        x.room(1, 5, 1);
        D.due("11 he does nothing", Due.judged(x, "A^"), 2);
        D.due("11 he stood up already", Due.judged(x, "A_A^A^"), 22);
        D.due("11 he stepped out already", Due.judged(x, "AaA^A^"), 22);
        D.due("11 the other left off already", Due.judged(x, "AB9A^B^"), 22);
        D.due("11 they have talked", Due.judged(x, "AB1.A^"), 22);
        D.due("11 they talk yet", Due.judged(x, "AB2.A^"), Due.NONE);
    }

    private static void notInOneRoom() {
        KitchenDrift x = Due.flat();
        D.due("11 A b, C c", Due.judged(x, "AC1"), 3);
        D.due("11 A b, B b", Due.judged(x, "AB1"), Due.NONE);
        D.due("11 B went to C", Due.judged(x, ".BC1"), Due.NONE);
        D.due("11 B went away from A", Due.judged(x, ".AB1"), 13);
    }

    private static void chairs() {
        KitchenDrift x = Due.come(new KitchenDrift(), 8, 0);
        D.due("11 no chair", Due.judged(x, "A_"), 4);
        x.room(1, 5, 9);
        D.due("11 chairs elsewhere", Due.judged(x, "A_"), 4);
        x.room(0, 5, 7);
        D.due("11 the eighth of seven", Due.judged(x, "A_B_C_D_E_F_G_H_"), 74);
        D.due("11 one stands up", Due.judged(x, "A_B_C_D_E_F_G_A^H_"), Due.NONE);
        x.room(0, 5, 8);
        D.due("11 eight of eight", Due.judged(x, "A_B_C_D_E_F_G_H_"), Due.NONE);
        x.guest(1, 1);
        x.room(0, 5, 1);
        D.due("11 who sits elsewhere takes none here", Due.judged(x, "B_A_"), Due.NONE);
    }

    private static void doors() {
        KitchenDrift x = new KitchenDrift();
        x.rooms(6);
        x.door(4, 5, 1);
        x.guest(0, 5);
        x.guest(1, 0);
        D.due("11 from the last room", Due.judged(x, "Ae"), Due.NONE);
        D.due("11 to his own room", Due.judged(x, "Af"), 5);
        D.due("11 to a room without a door", Due.judged(x, "Ad"), 5);
        D.due("11 a door of other rooms", Due.judged(x, "Bf"), 5);
        Due.doing(x, "Ae");
        x.guest(2, 4);
        D.due("11 though it is jammed", Due.judged(x, "Cf"), Due.NONE);
    }

    private static void carrying() {
        KitchenDrift x = new KitchenDrift();
        x.rooms(6);
        x.room(5, 3, 1);
        D.due("11 the last thing", Due.judged(x, "fa3"), Due.NONE);
        D.due("11 none is left", Due.judged(x, "fa3fa3"), 16);
        D.due("11 none of another sort", Due.judged(x, "fa2"), 6);
        D.due("11 both are one", Due.judged(x, "ff3"), 6);
        x.room(5, 3, 9);
        x.room(0, 3, 8);
        D.due("11 the ninth there", Due.judged(x, "fa3"), Due.NONE);
        D.due("11 nine are there", Due.judged(x, "fa3fa3"), 16);
        D.due("11 nine of another sort are there", Due.judged(x, "fb3"), Due.NONE);
        x.room(0, 3, 9);
        D.due("11 nine and nine", Due.judged(x, "fa3"), 6);
        D.due("11 carried away first", Due.judged(x, "ab3fa3"), Due.NONE);
        D.due("11 no door is asked for, nobody carries", x.told(105), 0);
    }

    private static void leastReason() {
        KitchenDrift x = Due.flat();
        D.due("11 not there ahead of busy", Due.judged(x, "AaAH1"), 11);
        D.due("11 not there ahead of no chair", Due.judged(x, "H_"), 1);
        D.due("11 not there ahead of no door", Due.judged(x, "Hc"), 1);
        D.due("11 busy ahead of not in one room", Due.judged(x, "AaAC1"), 12);
        D.due("11 busy, the other, ahead of not in one room", Due.judged(x, "CbAC1"), 12);
        D.due("11 busy ahead of no chair", Due.judged(x, "AaA_"), 12);
        D.due("11 busy ahead of no door", Due.judged(x, "AaAb"), 12);
    }

    private static void talksEnd() {
        KitchenDrift x = Due.flat();
        for (int minutes = 1; minutes <= 9; minutes++) {
            String party = "AB" + minutes + ".".repeat(minutes - 1);
            D.due("11 they talk yet", Due.judged(x, party + "AB1"), 10 * minutes + 2);
            x.likes(0, 0, 0);
            x.likes(1, 4, 0);
            D.due("11 they have talked", Due.judged(x, party + ".AB1"), Due.NONE);
        }
    }

    private static void judgeChangesNothing() {
        KitchenDrift x = Due.flat();
        D.due("11 it can be", Due.judged(x, "AB5ab0Cb."), Due.NONE);
        D.due("11 judged, not done: the pad", x.told(0), 9);
        D.due("11 judged, not done: things", x.told(10), 5);
        D.due("11 judged, not done: busy", x.state(0, 1) + x.state(2, 1), 0);
    }

    // ---- promise 12

    private static void doneOfNothing() {
        KitchenDrift x = Due.flat();
        D.due("12 no signs", x.done(), 0);
        D.due("12 no signs, again", x.done(), 0);
        D.due("12 nothing is changed", x.state(0, 0), 1);
    }

    private static void doneOfSixty() {
        KitchenDrift x = chase();
        D.due("12 sixty minutes", Due.doing(x, ".".repeat(60)), 60);
        D.due("12 the pad is empty", x.told(0), 0);
        D.due("12 there again", x.state(0, 0), 0);
        D.due("12 twenty events", Due.doing(Due.flat(), "ab0ba0".repeat(10)), 20);
        D.due("12 thirty events", Due.doing(Due.flat(), "AaA^".repeat(15)), 30);
    }

    private static void doneRefused() {
        KitchenDrift x = Due.flat();
        for (String party : new String[] {"A", "ab", "AB1?", ".....AB", "ab0d", "ab0A_", "..A^", "AB1ab0A_"}) {
            D.due("12 " + party, Due.doing(x, party), Due.NO);
            D.due("12 " + party + ", the pad stays", x.told(0), party.length());
            D.due("12 " + party + ", no thing is carried", x.told(10), 5);
            D.due("12 " + party + ", nobody went", x.state(0, 0), 1);
            D.due("12 " + party + ", nobody talks", x.state(0, 1), 0);
        }
        x.room(1, 5, 1);
        D.due("12 it can be now", Due.doing(x, "ab0A_"), 2);
    }

    // ---- promises 13 and 14

    private static void stateRefused() {
        KitchenDrift x = Due.flat();
        for (int guest : new int[] {-1, 3, 7, 8, 32, LEAST, MOST}) {
            D.due("13 guest " + guest, x.state(guest, 0), Due.UNKNOWN);
            D.due("13 guest " + guest + " ahead of OUTSIDE", x.state(guest, 4), Due.UNKNOWN);
            D.due("14 guest " + guest, x.behind(guest, 0), Due.UNKNOWN);
            D.due("14 guest " + guest + " ahead of OUTSIDE", x.behind(guest, 4), Due.UNKNOWN);
        }
        for (int what : new int[] {-1, 4, 5, LEAST, MOST}) {
            D.due("13 what " + what, x.state(0, what), Due.OUTSIDE);
            D.due("14 what " + what, x.behind(0, what), Due.OUTSIDE);
        }
    }

    private static void told(String name, KitchenDrift x, int guest, int[] due) {
        for (int what = 0; what < 4; what++) {
            D.due("13 " + name + ", " + what, x.state(guest, what), due[what]);
            D.due("14 " + name + ", an empty pad, " + what, x.behind(guest, what), due[what]);
        }
    }

    private static void stateOfEachKind() {
        KitchenDrift x = new KitchenDrift();
        x.rooms(6);
        x.guest(0, 5);
        x.guest(7, 5);
        x.door(0, 5, 1);
        x.room(5, 5, 1);
        told("idle", x, 7, new int[] {5, 0, Due.NONE, 0});
        Due.doing(x, "AH9");
        told("A talks with H", x, 0, new int[] {5, 1, 7, 9});
        told("H talks with A", x, 7, new int[] {5, 1, 0, 9});
        Due.doing(x, "........");
        told("a minute is left", x, 7, new int[] {5, 1, 0, 1});
        Due.doing(x, ".");
        told("they have talked", x, 7, new int[] {5, 0, Due.NONE, 0});
        Due.doing(x, "H_Aa");
        told("sits", x, 7, new int[] {5, 2, Due.NONE, 0});
        told("stands in the door to a", x, 0, new int[] {5, 3, 0, 0});
    }

    private static void behindRefused() {
        KitchenDrift x = Due.flat();
        for (String party : new String[] {"A", "?", "A^", ".A_"}) {
            Due.write(x, party);
            for (int what = 0; what < 4; what++) {
                D.due("14 " + party, x.behind(0, what), Due.NO);
            }
            D.due("14 OUTSIDE ahead of NO, " + party, x.behind(0, 4), Due.OUTSIDE);
            D.due("14 UNKNOWN ahead of NO, " + party, x.behind(3, 0), Due.UNKNOWN);
        }
    }

    private static void behindOfNothing() {
        KitchenDrift x = chase();
        Due.write(x, ".".repeat(60));
        D.due("14 sixty minutes", x.behind(0, 0), 0);
        Due.write(x, ".".repeat(59));
        D.due("14 fifty-nine", x.behind(0, 0), 1);
        D.due("14 nothing is done", x.state(0, 0), 0);
        D.due("14 the pad stays", x.told(0), 59);
        x.wipe();
        D.due("14 no signs", x.behind(0, 0), 0);
    }

    // ---- promise 15

    private static void drawFarthest() {
        KitchenDrift x = Due.come(new KitchenDrift(), 8, 2);
        for (int sort = 0; sort < 4; sort++) {
            x.room(2, sort, 9);
            x.likes(0, sort, 3);
            x.likes(7, sort, -3);
        }
        D.due("15 all things, no company", x.draw(0, 2), 1108);
        D.due("15 no things liked less", x.draw(7, 2), 892);
        x.likes(0, 4, 3);
        x.likes(7, 4, -3);
        D.due("15 seven others, not himself", x.draw(0, 2), 1129);
        D.due("15 seven others, not himself", x.draw(7, 2), 871);
        D.due("15 an empty room", x.draw(0, 1), 1000);
        x.guest(7, 0);
        D.due("15 who is elsewhere sees seven there", x.draw(7, 2), 1000);
        x.likes(7, 4, 3);
        D.due("15 who is elsewhere sees seven there", x.draw(7, 2), 1021);
        D.due("15 alone in his own", x.draw(7, 0), 1000);
    }

    private static void drawRefused() {
        KitchenDrift x = Due.flat();
        for (int guest : new int[] {-1, 3, 8, 32, LEAST, MOST}) {
            D.due("15 guest " + guest, x.draw(guest, 0), Due.UNKNOWN);
        }
        for (int room : new int[] {-1, 3, 6, LEAST, MOST}) {
            D.due("15 room " + room, x.draw(0, room), Due.UNKNOWN);
        }
    }

    // ---- promise 16

    private static void goesOnlyForMore() {
        KitchenDrift x = Due.open(2, 3);
        x.guest(0, 0);
        x.likes(0, 0, 1);
        x.room(0, 0, 8);
        x.room(1, 0, 8);
        D.due("16 as much: he stays", x.goes(0), 0);
        x.room(1, 0, 9);
        D.due("16 one more: he goes", x.goes(0), 1);
        x.room(1, 0, 7);
        D.due("16 one less: he stays", x.goes(0), 0);
        x.likes(0, 0, -1);
        D.due("16 one less of what he does not like: he goes", x.goes(0), 1);
        x.room(1, 0, 8);
        D.due("16 as much of it: he stays", x.goes(0), 0);
    }

    private static void goesToTheLeast() {
        KitchenDrift x = Due.open(6, 1);
        x.guest(0, 2);
        x.likes(0, 3, 1);
        x.room(5, 3, 1);
        D.due("16 the last room", x.goes(0), 5);
        x.room(4, 3, 1);
        D.due("16 of two the least", x.goes(0), 4);
        x.room(0, 3, 1);
        D.due("16 of three the least", x.goes(0), 0);
        x.room(3, 3, 2);
        D.due("16 the greatest", x.goes(0), 3);
        x.room(2, 3, 2);
        D.due("16 his own is as good", x.goes(0), 2);
    }

    private static void goesWhereThereIsRoom() {
        KitchenDrift x = Due.open(3, 1);
        x.room(1, 0, 2);
        x.room(2, 0, 1);
        x.room(1, 4, 1);
        x.room(0, 4, 1);
        x.guest(0, 0);
        x.likes(0, 0, 1);
        D.due("16 none is there, one may be; his own is full of him", x.goes(0), 1);
        x.guest(1, 1);
        D.due("16 it is full: the next best", x.goes(0), 2);
        x.room(1, 4, 2);
        D.due("16 one is there, two may be", x.goes(0), 1);
    }

    private static void goesThroughWhatIsWide() {
        for (int width = 1; width <= 3; width++) {
            KitchenDrift x = Due.come(Due.open(2, width), 5, 0);
            x.guest(5, 1);
            x.room(1, 0, 1);
            x.likes(4, 0, 1);
            D.due("16 nobody stands in it", x.goes(4), 1);
            String[] stand = {"Ab", "Fa", "Bb"};
            for (int n = 1; n <= 3; n++) {
                Due.doing(x, stand[n - 1]);
                D.due("16 " + width + " wide, " + n + " in it", x.goes(4), n < width ? 1 : 0);
            }
            Due.doing(x, "F^");
            D.due("16 " + width + " wide, two in it", x.goes(4), 2 < width ? 1 : 0);
        }
        KitchenDrift x = new KitchenDrift();
        x.room(1, 0, 9);
        x.guest(0, 0);
        x.likes(0, 0, 3);
        D.due("16 no door", x.goes(0), 0);
        x.door(1, 2, 3);
        D.due("16 doors of other rooms", x.goes(0), 0);
    }

    private static void goesRefused() {
        KitchenDrift x = Due.flat();
        x.room(2, 5, 1);
        for (int guest : new int[] {-1, 3, 8, 32, LEAST, MOST}) {
            D.due("16 guest " + guest, x.goes(guest), Due.UNKNOWN);
        }
        Due.doing(x, "AB1C_");
        D.due("16 talks", x.goes(0), Due.STATE);
        D.due("16 talks, the other", x.goes(1), Due.STATE);
        D.due("16 sits", x.goes(2), Due.STATE);
        Due.doing(x, ".Aa");
        D.due("16 stands in a door", x.goes(0), Due.STATE);
        D.due("16 has talked", x.goes(1), 1);
    }

    // ---- promise 17 and a MINUTE

    /** A flees, B follows: in a at even MINUTES, in b at odd ones. */
    private static KitchenDrift chase() {
        KitchenDrift x = Due.open(2, 3);
        Due.come(x, 2, 0);
        x.likes(0, 4, -1);
        x.likes(1, 4, 1);
        return x;
    }

    private static void afterRefused() {
        KitchenDrift x = Due.flat();
        for (int guest : new int[] {-1, 3, 8, 32, LEAST, MOST}) {
            D.due("17 guest " + guest, x.after(guest, 0), Due.UNKNOWN);
            D.due("17 guest " + guest + " ahead of OUTSIDE", x.after(guest, 100), Due.UNKNOWN);
        }
        for (int m : new int[] {-1, 100, 256, LEAST, MOST}) {
            D.due("17 m " + m, x.after(0, m), Due.OUTSIDE);
        }
    }

    private static void afterNoneAndMost() {
        KitchenDrift x = chase();
        for (int m : new int[] {0, 1, 2, 3, 50, 97, 98, 99}) {
            D.due("17 A after " + m, x.after(0, m), m % 2);
            D.due("17 B after " + m, x.after(1, m), m % 2);
        }
        D.due("17 nothing is done", x.state(0, 0), 0);
    }

    private static void asManyAsAreWide() {
        for (int width = 1; width <= 3; width++) {
            KitchenDrift x = Due.come(Due.open(2, width), 8, 0);
            x.room(1, 0, 1);
            for (int g = 0; g < 8; g++) {
                x.likes(g, 0, 1);
            }
            for (int m = 0; m <= 9; m++) {
                int went = Math.min(8, m * width);
                D.due("17 " + width + " wide, " + m + " minutes", x.crowd(1, m), (1 << went) - 1);
            }
        }
    }

    private static void eitherWay() {
        KitchenDrift x = Due.open(3, 1);
        x.door(0, 1, 2);
        x.room(0, 0, 1);
        x.room(1, 1, 1);
        for (int g = 0; g < 4; g++) {
            x.guest(g, g % 2);
            x.likes(g, g % 2 == 0 ? 1 : 0, 1);
        }
        D.due("17 A to b, B to a, then the door is used up", x.crowd(1, 1), 1 + 8);
        D.due("17 a minute later C and D, too", x.crowd(1, 2), 1 + 4);
        x.guest(4, 2);
        x.likes(4, 0, 1);
        D.due("17 another door of that room is not", x.after(4, 1), 0);
    }

    private static void placesByTurn() {
        KitchenDrift x = Due.open(3, 3);
        x.room(1, 4, 1);
        x.room(1, 0, 1);
        x.room(2, 1, 1);
        x.guest(0, 0);
        x.guest(1, 1);
        x.guest(2, 0);
        x.likes(0, 0, 1);
        x.likes(1, 1, 1);
        x.likes(2, 0, 1);
        D.due("17 A finds it full", x.after(0, 1), 0);
        D.due("17 B leaves it", x.after(1, 1), 2);
        D.due("17 C finds it free", x.after(2, 1), 1);
        D.due("17 A finds it full ever after", x.after(0, 99), 0);
    }

    private static void doorsUsedAnewEachMinute() {
        KitchenDrift x = Due.come(Due.open(2, 1), 2, 0);
        x.room(1, 0, 1);
        x.likes(0, 0, 1);
        x.likes(1, 0, 1);
        Due.doing(x, ".");
        D.due("12 one went in that minute", x.state(1, 0), 0);
        D.due("16 the door is free again now", x.goes(1), 1);
        Due.doing(x, ".");
        D.due("12 the other in the next", x.state(1, 0), 1);
    }

    // ---- promise 18

    private static void crowdEdges() {
        KitchenDrift x = Due.open(6, 3);
        Due.come(x, 8, 5);
        D.due("18 all in the last room", x.crowd(5, 0), 255);
        D.due("18 nobody in the first", x.crowd(0, 0), 0);
        D.due("18 all the while", x.crowd(5, 99), 255);
        for (int m : new int[] {-1, 100, LEAST, MOST}) {
            D.due("18 m " + m, x.crowd(5, m), Due.OUTSIDE);
        }
        for (int room : new int[] {-1, 6, LEAST, MOST}) {
            D.due("18 room " + room, x.crowd(room, 0), Due.UNKNOWN);
            D.due("18 room " + room + " ahead of OUTSIDE", x.crowd(room, 100), Due.UNKNOWN);
        }
        KitchenDrift y = chase();
        D.due("18 the ninety-ninth minute", y.crowd(1, 99), 3);
        D.due("18 the ninety-eighth", y.crowd(1, 98), 0);
    }

    // ---- promises 19 and 20

    /** Who goes on for 99 MINUTES, and in the hundredth nobody. */
    private static KitchenDrift longWalk() {
        return Due.six("221131123202122232202312", "346617", "011001020001103", "23205554",
                "1223650565262210631133441220056545213656");
    }

    /** Behind 34 MINUTES all goes round in 66. */
    private static KitchenDrift longWay() {
        return Due.six("210232222301323132201111", "834427", "113213030233203", "31020312",
                "1325226511032163224654430240523255442022");
    }

    /** All goes round in 99 MINUTES from now on. */
    private static KitchenDrift longRound() {
        return Due.six("033201200021212222210011", "643644", "231221101112033", "33120505",
                "5615644444105050102034162030214354220001");
    }

    private static void stillFirst() {
        D.due("19 nobody is there", new KitchenDrift().still(), 1);
        KitchenDrift x = new KitchenDrift();
        x.guest(0, 0);
        D.due("19 one who stays", x.still(), 1);
        x.door(0, 1, 1);
        x.room(1, 0, 1);
        x.likes(0, 0, 1);
        D.due("19 one who goes once", x.still(), 2);
        D.due("19 to and fro", chase().still(), Due.NONE);
    }

    private static void stillBehindTalks() {
        KitchenDrift x = Due.come(new KitchenDrift(), 2, 0);
        for (int minutes = 1; minutes <= 9; minutes++) {
            Due.doing(x, "AB" + minutes);
            D.due("19 they talk for " + minutes, x.still(), minutes + 1);
            Due.doing(x, "A^");
        }
        x.room(0, 5, 2);
        Due.doing(x, "A_B_");
        D.due("19 who sits does not talk", x.still(), 1);
    }

    private static void stillLast() {
        KitchenDrift x = longWalk();
        D.due("19 the hundredth is too late", x.still(), Due.NONE);
        D.due("20 nor do they go round", x.round(), Due.NONE);
        Due.doing(x, ".");
        D.due("19 the ninety-ninth", x.still(), 99);
        D.due("20 somewhere it is still", x.round(), Due.NONE);
        Due.doing(x, ".");
        D.due("19 the ninety-eighth", x.still(), 98);
    }

    private static void roundRefused() {
        D.due("20 nobody is there", new KitchenDrift().round(), Due.NONE);
        D.due("20 still in the second minute", Due.flat().round(), Due.NONE);
        D.due("20 to and fro", chase().round(), 2);
    }

    private static void roundBusy() {
        KitchenDrift x = Due.come(new KitchenDrift(), 2, 0);
        Due.doing(x, "AB9");
        D.due("20 nobody goes while they talk: that is no round", x.round(), Due.NONE);
        D.due("19 still when they have talked", x.still(), 10);
    }

    /** A and B are there again behind two MINUTES, C and D, who go one by one, behind four, when they have talked. */
    private static void roundOfTwoChases() {
        KitchenDrift x = new KitchenDrift();
        x.rooms(4);
        x.door(0, 1, 3);
        x.door(2, 3, 1);
        for (int g = 0; g < 4; g++) {
            x.guest(g, g / 2 * 2);
            x.likes(g, 4, g % 2 == 0 ? -1 : 1);
        }
        D.due("20 both chases", x.round(), 4);
        Due.doing(x, "CD9");
        D.due("20 behind a talk: fewer minutes to talk yet is not BUSY as they were", x.round(), 4);
        x.leave(2);
        D.due("20 one chase", x.round(), 2);
    }

    /** Nobody goes while C and F talk, and D and G are far away: a MINUTE less to talk is not as it was. */
    private static void roundWhenTheyHaveTalked() {
        KitchenDrift x = new KitchenDrift();
        x.rooms(6);
        x.door(0, 1, 3);
        x.guest(2, 0);
        x.guest(5, 0);
        x.guest(3, 5);
        x.guest(6, 5);
        x.likes(2, 4, -1);
        x.likes(5, 4, 1);
        Due.doing(x, "CF9");
        D.due("20 a chase of two, when they have talked", x.round(), 2);
    }

    private static void roundLast() {
        KitchenDrift x = longWay();
        D.due("19 never", x.still(), Due.NONE);
        D.due("20 there again behind a hundred minutes: too late", x.round(), Due.NONE);
        Due.doing(x, ".");
        D.due("20 there again behind ninety-nine", x.round(), 66);
        Due.doing(x, ".".repeat(33));
        D.due("20 from where they are now", x.round(), 66);
        KitchenDrift y = longRound();
        D.due("20 where they are now behind ninety-nine", y.round(), 99);
        for (int g = 0; g < 8; g++) {
            D.due("17 where he is now", y.after(g, 99), y.state(g, 0));
        }
    }

    // ---- promise 21

    private static void throngRefused() {
        KitchenDrift x = Due.flat();
        for (int m : new int[] {0, -1, 100, 256, LEAST, MOST}) {
            D.due("21 m " + m, x.throng(m), Due.OUTSIDE);
        }
        D.due("21 nobody", new KitchenDrift().throng(1), 0);
        D.due("21 nobody, for long", new KitchenDrift().throng(99), 0);
    }

    private static void throngOfEnds() {
        KitchenDrift x = Due.open(6, 3);
        Due.come(x, 8, 5);
        D.due("21 all eight, in the last room", x.throng(1), 8);
        x.room(0, 0, 1);
        for (int g = 0; g < 8; g++) {
            x.likes(g, 0, 1);
        }
        D.due("21 five and three; now is not looked at", x.throng(1), 5);
        D.due("21 two and six", x.throng(2), 6);
        D.due("21 eight", x.throng(3), 8);
        D.due("21 eight, ever after", x.throng(99), 8);
        KitchenDrift y = longWalk();
        int most = 0;
        for (int m = 1; m <= 40; m++) {
            for (int room = 0; room < 6; room++) {
                most = Math.max(most, Integer.bitCount(y.crowd(room, m)));
            }
        }
        D.due("21 the most of forty", y.throng(40), most);
    }
}
