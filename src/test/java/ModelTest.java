/** Runs of 512 calls, made by a row of numbers that is always the same, on the program and on the model. */
public final class ModelTest {
    private static final int RUNS = 200;
    private static final int CALLS = 512;
    private static long seed;
    private static final int[] answered = new int[26];

    public static void main(String[] args) {
        for (int run = 0; run < RUNS; run++) {
            seed = 1000003L * run + 17;
            if (!same(run)) {
                break;
            }
        }
        for (int kind = 0; kind < answered.length; kind++) {
            Due.due("call of kind " + kind + " has answered without an error", answered[kind] > 100 ? 1 : 0, 1);
        }
        Due.finish();
    }

    /** 0 to most - 1, from a row that is the same in each run of the test. */
    private static int below(int most) {
        seed = seed * 6364136223846793005L + 1442695040888963407L;
        return (int) ((seed >>> 33) % most);
    }

    /** A value of the range, now and then one at its ends, beyond them or far away. */
    private static int near(int least, int most) {
        switch (below(40)) {
            case 0: return least - 1;
            case 1: return most + 1;
            case 2: return Due.ODD[below(Due.ODD.length)];
            case 3: case 4: return least;
            case 5: case 6: return most;
            default: return least + below(most - least + 1);
        }
    }

    private static String order(int lines) {
        char line = (char) ('A' + (below(30) == 0 ? below(14) : below(Math.max(1, lines))));
        switch (below(20)) {
            case 0: case 1: case 2: case 3: return "u" + line;
            case 4: case 5: case 6: case 7: return "h" + line + below(4);
            case 8: case 9: return "l" + line + below(4);
            case 10: return "m" + line;
            case 11: case 12: return "n" + line;
            case 13: return "t" + below(1000);
            case 14: return below(4) == 0 ? "t0" + below(3) : "t" + (1 + below(600));
            case 15: return below(3) == 0 ? "" + (char) (33 + below(94)) : "uA";
            default: return "t" + (1 + below(40));
        }
    }

    private static boolean same(int run) {
        InterruptInn x = new InterruptInn();
        Model m = new Model();
        for (int call = 0; call < CALLS; call++) {
            String name = "run " + run + ", call " + call;
            if (!sameAnswer(name, x, m, call < 12) || !sameView(name, x, m)) {
                return false;
            }
        }
        return true;
    }

    private static boolean ask(String name, int kind, int got, int want) {
        if (want >= 0 || want == Due.NONE) {
            answered[kind]++;
        }
        Due.due(name + " (kind " + kind + ")", got, want);
        return got == want;
    }

    private static boolean sameAnswer(String name, InterruptInn x, Model m, boolean setsUp) {
        int line = near(0, Math.max(0, x.count(1) - 1));
        int kind = setsUp ? below(3) : 3 + below(40);
        switch (kind) {
            case 0: case 1: case 3: {
                int rank = near(0, 15);
                int need = below(3) == 0 ? near(1, 50) : near(1, 8);
                int deadline = below(3) == 0 ? near(0, 500) : near(0, 20);
                int level = near(0, 1);
                return ask(name, 1, x.line(rank, need, deadline, level), m.line(rank, need, deadline, level));
            }
            case 2: case 4: {
                int period = below(2) == 0 ? near(1, 200) : near(3, 40);
                int first = x.count(0) + (below(2) == 0 ? near(0, 500) : near(0, 20));
                return ask(name, 2, x.timer(line, period, first), m.timer(line, period, first));
            }
            case 5: {
                int timer = near(0, 5);
                return ask(name, 3, x.stop(timer), m.stop(timer));
            }
            case 6: case 7: {
                int setting = near(0, 6);
                int[] most = {100, 31, 9, 8, 9, 1, 31};
                int range = setting >= 0 && setting < 7 ? most[setting] : 9;
                int value = below(2) == 0 ? near(0, range) : near(0, Math.min(range, 7));
                return ask(name, 0, x.set(setting, value), m.set(setting, value));
            }
            case 8: case 9: case 10: case 11: case 12: case 13:
                return ask(name, 4, x.raise(line), m.raise(line));
            case 14: case 15: case 16: case 17: {
                int device = near(0, 3);
                int up = below(3) == 0 ? near(0, 1) : 1;
                return ask(name, 5, x.hold(line, device, up), m.hold(line, device, up));
            }
            case 18: case 19: {
                int is = below(3) == 0 ? near(0, 1) : 0;
                return ask(name, 6, x.mask(line, is), m.mask(line, is));
            }
            case 20: {
                int rank = near(0, 15);
                int need = near(1, 12);
                int deadline = near(0, 30);
                return ask(name, 7, x.change(line, rank, need, deadline), m.change(line, rank, need, deadline));
            }
            case 21: case 22: case 23: case 24: case 25: {
                int ticks = below(8) == 0 ? near(1, 500) : 1 + below(12);
                return ask(name, 8, x.ticks(ticks), m.ticks(ticks));
            }
            default:
                return sameOther(name, x, m, kind, line);
        }
    }

    private static boolean sameOther(String name, InterruptInn x, Model m, int kind, int line) {
        switch (kind) {
            case 26: return ask(name, 9, x.beginsIn(line), m.beginsIn(line));
            case 27: return ask(name, 10, x.idleIn(), m.idleIn());
            case 28: {
                int ticks = near(1, 500);
                return ask(name, 11, x.missesIn(ticks), m.missesIn(ticks));
            }
            case 29: {
                int ticks = below(2) == 0 ? near(1, 200) : near(1, 20);
                return ask(name, 12, x.greatestBar(line, ticks), m.greatestBar(line, ticks));
            }
            case 30: return ask(name, 13, x.bound(line), m.bound(line));
            case 31: return ask(name, 14, x.load(), m.load());
            case 32: case 33: case 34: {
                String text = (x.count(10) > 0 && below(12) != 0 ? ";" : "") + order(x.count(1));
                long characters = Due.packed(text);
                if (below(40) == 0) {
                    characters ^= 1L << below(64);
                }
                return ask(name, 15, x.put(characters), m.put(characters));
            }
            case 35: return below(6) == 0 ? ask(name, 16, x.wipe(), m.wipe()) : ask(name, 17, x.fault(), m.fault());
            case 36: case 37: {
                int answer = m.carryOut();
                boolean is = ask(name, 18, x.carryOut(), answer);
                return is && (answer != Due.BAD_TEXT || ask(name, 16, x.wipe(), m.wipe()));
            }
            case 38: case 39: return ask(name, 19, x.undo(), m.undo());
            case 40: case 41: {
                int slot = near(0, 1);
                return below(2) == 0 ? ask(name, 20, x.save(slot), m.save(slot))
                    : ask(name, 21, x.restore(slot), m.restore(slot));
            }
            default: {
                int what = below(2) == 0 ? near(0, 18) : near(0, 3);
                return ask(name, 22, x.ofLine(line, what), m.ofLine(line, what))
                    && ask(name, 23, x.ofNest(line, what), m.ofNest(line, what))
                    && ask(name, 24, x.ofTimer(line, what), m.ofTimer(line, what))
                    && ask(name, 25, x.count(what), m.count(what));
            }
        }
    }

    private static boolean sameView(String name, InterruptInn x, Model m) {
        boolean is = x.fault() == m.fault();
        for (int what = 0; what <= 18; what++) {
            is &= x.count(what) == m.count(what);
        }
        for (int line = 0; line < m.count(1); line++) {
            for (int what = 0; what <= 16; what++) {
                is &= x.ofLine(line, what) == m.ofLine(line, what);
            }
        }
        for (int place = 0; place < m.count(3); place++) {
            for (int what = 0; what <= 3; what++) {
                is &= x.ofNest(place, what) == m.ofNest(place, what);
            }
        }
        for (int timer = 0; timer < m.count(2); timer++) {
            for (int what = 0; what <= 2; what++) {
                is &= x.ofTimer(timer, what) == m.ofTimer(timer, what);
            }
        }
        Due.due(name + ": all that is seen is the same", is ? 1 : 0, 1);
        return is;
    }
}
