/** Counts answers that are not as due, and ends with exit code 1 if there was one. */
final class Due {
    static final int NONE = -6, UNKNOWN = -1, OUTSIDE = -2, STATE = -3, FULL = -4, NO = -5;

    private final String name;
    private int asked;
    private int wrong;

    Due(String name) {
        this.name = name;
    }

    void due(String what, long got, long want) {
        asked++;
        if (got != want) {
            wrong++;
            System.out.println(name + ": " + what + " answered " + got + ", due is " + want);
        }
    }

    void end() {
        System.out.println(name + ": " + asked + " answers, " + wrong + " not as due");
        if (wrong != 0) {
            System.exit(1);
        }
    }

    /** Puts just this text on the PAD. */
    static KitchenDrift write(KitchenDrift x, String party) {
        x.wipe();
        for (char sign : party.toCharArray()) {
            x.say(sign);
        }
        return x;
    }

    static int fault(KitchenDrift x, String party) {
        return write(x, party).fault();
    }

    static int doing(KitchenDrift x, String party) {
        return write(x, party).done();
    }

    /** 10 times the EVENT that can not be, and why; NONE. */
    static int judged(KitchenDrift x, String party) {
        write(x, party);
        int event = x.judge(0);
        return event < 0 ? event : 10 * event + x.judge(1);
    }

    /** The kitchen a with 5 drinks, the hall b, the drawing room c; A and B in the hall, C in the drawing room. */
    static KitchenDrift flat() {
        KitchenDrift x = new KitchenDrift();
        x.room(0, 0, 5);
        x.door(0, 1, 1);
        x.door(1, 2, 2);
        x.guest(0, 1);
        x.guest(1, 1);
        x.guest(2, 2);
        x.likes(0, 0, 2);
        x.likes(1, 4, 3);
        x.likes(2, 0, 1);
        return x;
    }

    /**
     * Six ROOMS and eight GUESTS, all told by digits: the THINGS of each ROOM, its SIZE, the WIDTHS (0 1, 0 2 ..
     * 4 5), the ROOM of each GUEST, his five LIKES and 3.
     */
    static KitchenDrift six(String things, String sizes, String widths, String places, String likes) {
        KitchenDrift x = new KitchenDrift();
        x.rooms(6);
        int door = 0;
        for (int room = 0; room < 6; room++) {
            x.room(room, 4, sizes.charAt(room) - '0');
            for (int sort = 0; sort < 4; sort++) {
                x.room(room, sort, things.charAt(room * 4 + sort) - '0');
            }
            for (int other = room + 1; other < 6; other++) {
                x.door(room, other, widths.charAt(door++) - '0');
            }
        }
        for (int guest = 0; guest < 8; guest++) {
            x.guest(guest, places.charAt(guest) - '0');
            for (int sort = 0; sort < 5; sort++) {
                x.likes(guest, sort, likes.charAt(guest * 5 + sort) - '3');
            }
        }
        return x;
    }

    /** So many ROOMS, with DOORS of this WIDTH between all of them. */
    static KitchenDrift open(int rooms, int width) {
        KitchenDrift x = new KitchenDrift();
        x.rooms(rooms);
        for (int room = 0; room < rooms; room++) {
            for (int other = room + 1; other < rooms; other++) {
                x.door(room, other, width);
            }
        }
        return x;
    }

    /** So many GUESTS, from A on, come to a ROOM. */
    static KitchenDrift come(KitchenDrift x, int guests, int room) {
        for (int guest = 0; guest < guests; guest++) {
            x.guest(guest, room);
        }
        return x;
    }
}
