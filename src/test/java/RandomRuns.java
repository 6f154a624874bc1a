import java.util.ArrayList;
import java.util.List;
import java.util.Random;

/** Runs of calls by chance (the same ones each time), held against NaiveKitchen. */
public final class RandomRuns {
    private static final int RUNS = 120;
    private static final int CALLS = 512;

    private final Random random;
    private final KitchenDrift x = new KitchenDrift();
    private final NaiveKitchen y = new NaiveKitchen();
    private final List<String> calls = new ArrayList<>();
    private long got;
    private long want;

    private RandomRuns(long seed) {
        random = new Random(seed);
    }

    public static void main(String[] args) {
        int runs = args.length > 0 ? Integer.parseInt(args[0]) : RUNS;
        int from = args.length > 1 ? Integer.parseInt(args[1]) : 1;
        for (int seed = from; seed < from + runs; seed++) {
            if (!new RandomRuns(seed).run(seed)) {
                System.exit(1);
            }
        }
        System.out.println("RandomRuns: " + runs + " runs of " + CALLS + " calls agree");
    }

    private boolean run(int seed) {
        furnish();
        for (int c = 0; c < CALLS; c++) {
            call();
            if (got != want) {
                System.out.println("run " + seed + ", got " + got + ", want " + want + ":");
                calls.forEach(System.out::println);
                return false;
            }
        }
        return true;
    }

    private void note(String call, long got, long want) {
        calls.add(call + " = " + want);
        // A difference while a run is being furnished must not be lost.
        if (this.got == this.want) {
            this.got = got;
            this.want = want;
        }
    }

    /** Mostly from lo to hi, now and then a little, or far, outside. */
    private int pick(int lo, int hi) {
        int chance = random.nextInt(60);
        if (chance == 0) {
            return lo - 1;
        }
        if (chance == 1) {
            return hi + 1;
        }
        if (chance == 2 && random.nextInt(10) == 0) {
            return random.nextBoolean() ? Integer.MAX_VALUE : Integer.MIN_VALUE;
        }
        return lo + random.nextInt(hi - lo + 1);
    }

    private int room() {
        return pick(0, y.w.n - 1);
    }

    /** Mostly one who is there. */
    private int guest() {
        List<Integer> there = new ArrayList<>(y.w.guests.keySet());
        return there.isEmpty() || random.nextInt(6) == 0 ? pick(0, 7) : there.get(random.nextInt(there.size()));
    }

    private void furnish() {
        setRooms(2 + random.nextInt(5));
        for (int n = 0; n < 14; n++) {
            setDoor();
            setRoom();
        }
        for (int g = 0; g < 8; g++) {
            if (random.nextInt(5) > 0) {
                setGuest(g);
                for (int n = 0; n < 3; n++) {
                    setLikes(g);
                }
            }
        }
    }

    private void setRooms(int n) {
        note("rooms(" + n + ")", x.rooms(n), y.rooms(n));
    }

    private void setRoom() {
        int r = room(), what = pick(0, 5), v = random.nextInt(3) == 0 ? pick(0, 9) : pick(0, 3);
        note("room(" + r + "," + what + "," + v + ")", x.room(r, what, v), y.room(r, what, v));
    }

    private void setDoor() {
        int r = room(), q = room(), v = pick(0, 3);
        note("door(" + r + "," + q + "," + v + ")", x.door(r, q, v), y.door(r, q, v));
    }

    private void setGuest(int g) {
        int r = room();
        note("guest(" + g + "," + r + ")", x.guest(g, r), y.guest(g, r));
    }

    private void setLikes(int g) {
        int s = random.nextInt(3) == 0 ? 4 : pick(0, 4), v = pick(-3, 3);
        note("likes(" + g + "," + s + "," + v + ")", x.likes(g, s, v), y.likes(g, s, v));
    }

    private void say(int sign) {
        note("say(" + sign + ")", x.say(sign), y.say(sign));
    }

    private char guestLetter() {
        return (char) ('A' + Math.floorMod(guest(), 8));
    }

    private char roomLetter() {
        return (char) ('a' + random.nextInt(random.nextInt(20) == 0 ? 7 : y.w.n));
    }

    private String event() {
        switch (random.nextInt(7)) {
            case 0:
            case 1:
                char a = guestLetter(), b = guestLetter();
                return "" + (char) Math.min(a, b) + (char) Math.max(a, b) + (char) ('0' + random.nextInt(10));
            case 2:
                return guestLetter() + "_";
            case 3:
                return guestLetter() + "^";
            case 4:
                return "" + guestLetter() + roomLetter();
            case 5:
                return "" + roomLetter() + roomLetter() + (char) ('0' + random.nextInt(4));
            default:
                return ".";
        }
    }

    /** Mostly one that can be behind what stands on the PAD. */
    private String fittingEvent() {
        String e = event();
        String stood = y.pad;
        boolean fits = false;
        for (int n = 0; n < 12 && !fits; n++) {
            e = event();
            y.pad = stood + e;
            fits = y.judge(0) == NaiveKitchen.NONE;
        }
        y.pad = stood;
        return e;
    }

    private void party() {
        if (y.fault() != NaiveKitchen.NONE || random.nextInt(4) == 0) {
            note("wipe()", x.wipe(), y.wipe());
        }
        int events = 1 + random.nextInt(random.nextInt(10) == 0 ? 40 : 5);
        for (int n = 0; n < events; n++) {
            String e = random.nextInt(12) == 0 ? event() : fittingEvent();
            for (int i = 0; i < e.length(); i++) {
                say(e.charAt(i));
            }
        }
        note("fault()", x.fault(), y.fault());
        note("judge(0)", x.judge(0), y.judge(0));
        note("judge(1)", x.judge(1), y.judge(1));
        int g = guest(), what = pick(0, 3);
        note("behind(" + g + "," + what + ")", x.behind(g, what), y.behind(g, what));
        if (random.nextInt(4) > 0) {
            note("done()", x.done(), y.done());
        }
    }

    private void call() {
        int kind = random.nextInt(100);
        if (kind < 22) {
            change(kind);
        } else if (kind < 32) {
            party();
        } else if (kind < 62) {
            ask(random.nextInt(14));
        } else {
            seek(random.nextInt(14));
        }
    }

    private void change(int kind) {
        if (kind < 5) {
            setRoom();
        } else if (kind < 9) {
            setDoor();
        } else if (kind < 12) {
            setGuest(guest());
        } else if (kind < 18) {
            setLikes(guest());
        } else if (kind < 20) {
            say(pick(33, 126));
        } else if (kind == 20 && random.nextInt(2) == 0) {
            int g = guest();
            note("leave(" + g + ")", x.leave(g), y.leave(g));
        } else if (random.nextInt(8) == 0) {
            setRooms(pick(2, 6));
        }
    }

    private void ask(int kind) {
        int g = guest(), r = room(), m = random.nextInt(2) == 0 ? pick(0, 5) : pick(0, 99), what = pick(0, 3);
        switch (kind) {
            case 0: note("state(" + g + "," + what + ")", x.state(g, what), y.state(g, what)); break;
            case 1: note("draw(" + g + "," + r + ")", x.draw(g, r), y.draw(g, r)); break;
            case 2: note("goes(" + g + ")", x.goes(g), y.goes(g)); break;
            case 3: note("after(" + g + "," + m + ")", x.after(g, m), y.after(g, m)); break;
            case 4: note("crowd(" + r + "," + m + ")", x.crowd(r, m), y.crowd(r, m)); break;
            case 5: note("still()", x.still(), y.still()); break;
            case 6: note("round()", x.round(), y.round()); break;
            case 7: note("throng(" + m + ")", x.throng(m), y.throng(m)); break;
            case 8: note("judge(" + what + ")", x.judge(what), y.judge(what)); break;
            case 9: note("fault()", x.fault(), y.fault()); break;
            case 10: note("best(" + g + ")", x.best(g), y.best(g)); break;
            case 11: tell(); break;
            case 12: note("image(" + (what - 1) + ")", x.image(what - 1), y.image(what - 1)); break;
            default: note("restore(" + (what - 1) + ")", x.restore(what - 1), y.restore(what - 1)); break;
        }
    }

    private void tell() {
        int what = random.nextInt(6);
        if (random.nextInt(4) > 0) {
            int unit = new int[] {10, 100, 1000}[random.nextInt(3)];
            what = unit * pick(1, 8) + pick(0, 6);
        }
        note("told(" + what + ")", x.told(what), y.told(what));
    }

    private void seek(int kind) {
        int g = guest(), r = room(), m = pick(0, 20), two = pick(0, 1);
        switch (kind) {
            case 0: note("carried(" + m + "," + two + ")", x.carried(m, two), y.carried(m, two)); break;
            case 1:
            case 2: note("hinges(" + m + "," + two + ")", x.hinges(m, two), y.hinges(m, two)); break;
            case 3:
                if (random.nextInt(4) == 0) {
                    seekRests();
                }
                break;
            case 4:
            case 5:
                int k = pick(1, 8);
                if (random.nextInt(3) == 0) {
                    note("led(" + r + "," + k + "," + m + "," + two + ")", x.led(r, k, m, two), y.led(r, k, m, two));
                }
                break;
            case 6:
            case 7:
                int i = pick(-1, 5);
                note("excuses(" + g + "," + r + "," + i + ")", x.excuses(g, r, i), y.excuses(g, r, i));
                break;
            case 8: note("seen(" + g + "," + r + ")", x.seen(g, r), y.seen(g, r)); break;
            case 9:
                if (random.nextInt(2) == 0) {
                    note("forget()", x.forget(), y.forget());
                }
                break;
            case 10:
            case 11:
                int s = pick(0, 4);
                note("tastes(" + g + "," + s + ")", x.tastes(g, s), y.tastes(g, s));
                break;
            case 12:
                int c = pick(0, 10), d = random.nextInt(4) == 0 ? pick(0, 6) : pick(0, 3);
                note("drunk(" + g + "," + r + "," + c + "," + d + "," + two + ")",
                        x.drunk(g, r, c, d, two), y.drunk(g, r, c, d, two));
                break;
            default:
                int seed = pick(0, 9999), y1 = pick(1, 99), what = pick(0, 2);
                note("year(" + seed + "," + y1 + "," + what + ")", x.year(seed, y1, what), y.year(seed, y1, what));
                break;
        }
    }

    private void seekRests() {
        int there = y.told(2);
        int set = random.nextInt(5) > 0 ? random.nextInt(256) & there : pick(0, 255);
        if (random.nextInt(10) == 0) {
            set = there;
        }
        int g = pick(-1, 7);
        note("rests(" + set + "," + g + ")", x.rests(set, g), y.rests(set, g));
    }
}
