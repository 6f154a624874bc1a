import java.util.ArrayList;
import java.util.List;
import java.util.function.ToLongFunction;

/** "They change nothing": behind each refused call all that can be told is as if it had not been made. */
public final class RefusedCalls {
    private static final Due D = new Due("RefusedCalls");
    private static final long LOST = -1000000000000000000L;

    public static void main(String[] args) {
        roomsAndGuests();
        parties();
        carryingAndRests();
        sightsAndChances();
        images();
        D.end();
    }

    /** Somebody talks, sits, stands in a DOOR; a ROOM is full; a PARTY that can not be is on the PAD; six SIGHTS. */
    private static KitchenDrift house() {
        KitchenDrift x = Due.flat();
        x.door(0, 2, 3);
        x.likes(2, 0, -1);
        x.room(1, 5, 1);
        x.room(2, 4, 1);
        for (int g = 3; g < 7; g++) {
            x.guest(g, 1);
            x.likes(g, g % 5, g - 5);
        }
        x.image(0);
        Due.doing(x, "AB9D_Ea.");
        for (int n = 0; n < 6; n++) {
            x.seen(n % 2, n / 2);
        }
        return Due.write(x, "F_.");
    }

    private static KitchenDrift withFault() {
        return Due.write(house(), "A");
    }

    private static KitchenDrift withFullPad() {
        return Due.write(house(), "A^" + ".".repeat(58));
    }

    private static KitchenDrift withAll() {
        KitchenDrift x = house();
        x.guest(7, 0);
        return x;
    }

    private static void tell(KitchenDrift x, List<Long> all) {
        for (int what = 0; what < 4; what++) {
            all.add((long) x.told(what));
        }
        for (int room = 0; room < 3; room++) {
            for (int n = 0; n < 6; n++) {
                all.add((long) x.told(10 * (1 + room) + n));
            }
            all.add((long) x.told(100 * (1 + room) + (room + 1) % 3));
        }
        for (int g = 0; g < 8; g++) {
            for (int n = 0; n < 4; n++) {
                all.add((long) x.state(g, n));
            }
            for (int sort = 0; sort < 5; sort++) {
                all.add((long) x.told(1000 * (1 + g) + sort));
            }
        }
        all.add((long) x.tastes(0, 0));
        all.add((long) x.tastes(1, 4));
        all.add((long) x.fault());
        all.add((long) x.judge(0));
        all.add((long) x.judge(1));
    }

    /** All that can be told, now and of what IMAGE 0 keeps; IMAGE 1 is not kept. */
    private static List<Long> allOf(KitchenDrift x) {
        List<Long> all = new ArrayList<>();
        tell(x, all);
        all.add((long) x.restore(1));
        all.add((long) x.restore(0));
        tell(x, all);
        return all;
    }

    private static void refused(String call, KitchenDrift x, KitchenDrift same, ToLongFunction<KitchenDrift> made, long due) {
        D.due(call, made.applyAsLong(x), due);
        D.due(call + " changes nothing", allOf(x).equals(allOf(same)) ? 1 : 0, 1);
    }

    private static void refused(String call, ToLongFunction<KitchenDrift> made, long due) {
        refused(call, house(), house(), made, due);
    }

    private static void roomsAndGuests() {
        refused("2 rooms(1)", x -> x.rooms(1), Due.OUTSIDE);
        refused("2 rooms(7)", x -> x.rooms(7), Due.OUTSIDE);
        refused("3 room(3, 0, 1)", x -> x.room(3, 0, 1), Due.UNKNOWN);
        refused("3 room(0, 6, 1)", x -> x.room(0, 6, 1), Due.OUTSIDE);
        refused("3 room(0, 0, 10)", x -> x.room(0, 0, 10), Due.OUTSIDE);
        refused("3 room(0, 4, 0)", x -> x.room(0, 4, 0), Due.OUTSIDE);
        refused("3 room(1, 4, 5), six are there", x -> x.room(1, 4, 5), Due.STATE);
        refused("3 room(1, 5, 0), one sits there", x -> x.room(1, 5, 0), Due.STATE);
        refused("4 door(0, 3, 1)", x -> x.door(0, 3, 1), Due.UNKNOWN);
        refused("4 door(1, 1, 1)", x -> x.door(1, 1, 1), Due.UNKNOWN);
        refused("4 door(0, 1, 4)", x -> x.door(0, 1, 4), Due.OUTSIDE);
        refused("4 door(0, 1, 0), one stands in it", x -> x.door(0, 1, 0), Due.STATE);
        refused("5 guest(8, 0)", x -> x.guest(8, 0), Due.UNKNOWN);
        refused("5 guest(0, 3)", x -> x.guest(0, 3), Due.UNKNOWN);
        refused("5 guest(7, 2), it is full", x -> x.guest(7, 2), Due.FULL);
        refused("5 guest(0, 2), who talks, it is full", x -> x.guest(0, 2), Due.FULL);
        refused("6 likes(7, 0, 1)", x -> x.likes(7, 0, 1), Due.UNKNOWN);
        refused("6 likes(0, 5, 1)", x -> x.likes(0, 5, 1), Due.OUTSIDE);
        refused("6 likes(0, 0, 4)", x -> x.likes(0, 0, 4), Due.OUTSIDE);
        refused("7 leave(7)", x -> x.leave(7), Due.UNKNOWN);
        refused("7 leave(8)", x -> x.leave(8), Due.UNKNOWN);
    }

    private static void parties() {
        refused("8 say(32)", x -> x.say(32), Due.OUTSIDE);
        refused("8 say(127)", x -> x.say(127), Due.OUTSIDE);
        refused("8 a sixty-first", withFullPad(), withFullPad(), x -> x.say('.'), Due.FULL);
        refused("11 judge(2)", x -> x.judge(2), Due.OUTSIDE);
        refused("11 judge(0), a fault", withFault(), withFault(), x -> x.judge(0), Due.NO);
        refused("12 done(), a fault", withFault(), withFault(), KitchenDrift::done, Due.NO);
        refused("12 done(), no chair", KitchenDrift::done, Due.NO);
        refused("13 state(7, 0)", x -> x.state(7, 0), Due.UNKNOWN);
        refused("13 state(0, 4)", x -> x.state(0, 4), Due.OUTSIDE);
        refused("14 behind(7, 0)", x -> x.behind(7, 0), Due.UNKNOWN);
        refused("14 behind(0, 4)", x -> x.behind(0, 4), Due.OUTSIDE);
        refused("14 behind(0, 0), no chair", x -> x.behind(0, 0), Due.NO);
        refused("14 behind(0, 0), a fault", withFault(), withFault(), x -> x.behind(0, 0), Due.NO);
        refused("15 draw(7, 0)", x -> x.draw(7, 0), Due.UNKNOWN);
        refused("15 draw(0, 3)", x -> x.draw(0, 3), Due.UNKNOWN);
        refused("16 goes(7)", x -> x.goes(7), Due.UNKNOWN);
        refused("16 goes(0), who talks", x -> x.goes(0), Due.STATE);
        refused("17 after(7, 1)", x -> x.after(7, 1), Due.UNKNOWN);
        refused("17 after(0, 100)", x -> x.after(0, 100), Due.OUTSIDE);
        refused("18 crowd(3, 1)", x -> x.crowd(3, 1), Due.UNKNOWN);
        refused("18 crowd(0, 100)", x -> x.crowd(0, 100), Due.OUTSIDE);
        refused("21 throng(0)", x -> x.throng(0), Due.OUTSIDE);
        refused("21 throng(100)", x -> x.throng(100), Due.OUTSIDE);
    }

    private static void carryingAndRests() {
        refused("22 carried(21, 0)", x -> x.carried(21, 0), Due.OUTSIDE);
        refused("22 carried(0, 2)", x -> x.carried(0, 2), Due.OUTSIDE);
        refused("23 hinges(21, 0)", x -> x.hinges(21, 0), Due.OUTSIDE);
        refused("23 hinges(0, 2)", x -> x.hinges(0, 2), Due.OUTSIDE);
        refused("24 best(7)", x -> x.best(7), Due.UNKNOWN);
        refused("25 rests(128, -1)", x -> x.rests(128, -1), Due.OUTSIDE);
        refused("25 rests(127, -1)", withAll(), withAll(), x -> x.rests(127, -1), Due.FULL);
        refused("25 rests(1, 1)", x -> x.rests(1, 1), Due.UNKNOWN);
        refused("26 led(3, 1, 0, 0)", x -> x.led(3, 1, 0, 0), Due.UNKNOWN);
        refused("26 led(0, 9, 0, 0)", x -> x.led(0, 9, 0, 0), Due.OUTSIDE);
        refused("26 led(0, 1, 21, 0)", x -> x.led(0, 1, 21, 0), Due.OUTSIDE);
        refused("26 led(0, 1, 0, 2)", x -> x.led(0, 1, 0, 2), Due.OUTSIDE);
        refused("27 excuses(7, 0, 0)", x -> x.excuses(7, 0, 0), Due.UNKNOWN);
        refused("27 excuses(0, 3, 0)", x -> x.excuses(0, 3, 0), Due.UNKNOWN);
    }

    private static void sightsAndChances() {
        refused("28 seen(8, 0)", x -> x.seen(8, 0), Due.UNKNOWN);
        refused("28 seen(0, 3)", x -> x.seen(0, 3), Due.UNKNOWN);
        refused("28 a seventh", x -> x.seen(0, 0), Due.FULL);
        refused("30 tastes(7, 0)", x -> x.tastes(7, 0), Due.UNKNOWN);
        refused("30 tastes(0, 5)", x -> x.tastes(0, 5), Due.OUTSIDE);
        refused("31 drunk(7, 0, 0, 0, 0)", x -> x.drunk(7, 0, 0, 0, 0), LOST + Due.UNKNOWN);
        refused("31 drunk(0, 0, 11, 0, 0)", x -> x.drunk(0, 0, 11, 0, 0), LOST + Due.OUTSIDE);
        refused("32 year(10000, 1, 0)", x -> x.year(10000, 1, 0), Due.OUTSIDE);
        refused("32 year(0, 100, 0)", x -> x.year(0, 100, 0), Due.OUTSIDE);
    }

    private static void images() {
        refused("33 image(2)", x -> x.image(2), Due.OUTSIDE);
        refused("33 image(-1)", x -> x.image(-1), Due.OUTSIDE);
        refused("34 restore(2)", x -> x.restore(2), Due.OUTSIDE);
        refused("34 restore(1), it was not kept", x -> x.restore(1), Due.STATE);
        refused("35 told(4)", x -> x.told(4), Due.OUTSIDE);
        asked();
    }

    /** Nor do those calls change anything that are not refused, but only ask. */
    private static void asked() {
        List<Long> due = allOf(house());
        List<ToLongFunction<KitchenDrift>> calls = List.of(KitchenDrift::fault, KitchenDrift::still, KitchenDrift::round,
                x -> x.after(5, 99), x -> x.crowd(1, 99), x -> x.throng(99), x -> x.carried(20, 1), x -> x.hinges(20, 1),
                x -> x.best(5), x -> x.rests(63, -1), x -> x.led(0, 4, 20, 1), x -> x.excuses(2, 0, -1),
                x -> x.tastes(5, 4), x -> x.drunk(0, 0, 3, 6, 1), x -> x.year(77, 99, 1), x -> x.goes(5),
                x -> x.draw(5, 0), x -> x.told(12), x -> x.judge(1), x -> x.state(0, 3));
        for (int n = 0; n < calls.size(); n++) {
            KitchenDrift x = house();
            calls.get(n).applyAsLong(x);
            D.due("the question " + n + " changes nothing", allOf(x).equals(due) ? 1 : 0, 1);
        }
        KitchenDrift x = Due.write(house(), ".");
        KitchenDrift y = Due.write(house(), ".");
        x.behind(5, 0);
        D.due("14 behind() changes nothing", allOf(x).equals(allOf(y)) ? 1 : 0, 1);
    }
}
