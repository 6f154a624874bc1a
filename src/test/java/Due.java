/** Counts answers that are not as due, and ends with exit code 1 if there was one. */
final class Due {
    static final int NONE = -6, UNKNOWN = -1, OUTSIDE = -2, STATE = -3, FULL = -4, NO = -5;

    private final String name;
    private int asked;
    private int wrong;

    Due(String name) {
        this.name = name;
    }

    void due(String what, long got, long want) {
        asked++;
        if (got != want) {
            wrong++;
            System.out.println(name + ": " + what + " answered " + got + ", due is " + want);
        }
    }

    void end() {
        System.out.println(name + ": " + asked + " answers, " + wrong + " not as due");
        if (wrong != 0) {
            System.exit(1);
        }
    }

    /** Puts just this text on the PAD. */
    static KitchenDrift write(KitchenDrift x, String party) {
        x.wipe();
        for (char sign : party.toCharArray()) {
            x.say(sign);
        }
        return x;
    }

    static int fault(KitchenDrift x, String party) {
        return write(x, party).fault();
    }

    static int doing(KitchenDrift x, String party) {
        return write(x, party).done();
    }

    /** 10 times the EVENT that can not be, and why; NONE. */
    static int judged(KitchenDrift x, String party) {
        write(x, party);
        int event = x.judge(0);
        return event < 0 ? event : 10 * event + x.judge(1);
    }

    /** The kitchen a with 5 drinks, the hall b, the drawing room c; A and B in the hall, C in the drawing room. */
    static KitchenDrift flat() {
        KitchenDrift x = new KitchenDrift();
        x.room(0, 0, 5);
        x.door(0, 1, 1);
        x.door(1, 2, 2);
        x.guest(0, 1);
        x.guest(1, 1);
        x.guest(2, 2);
        x.likes(0, 0, 2);
        x.likes(1, 4, 3);
        x.likes(2, 0, 1);
        return x;
    }
}
