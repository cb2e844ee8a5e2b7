import java.util.Random;

/**
 * Random runs of calls on MasterHeap and SlowHeap: every answer must be the same.
 *
 * An object is asked far more than the 512 times that are promised, so that everything is looked at
 * behind every act: neither class counts its calls.
 */
public final class FuzzTest {
    private final Random random;
    private final MasterHeap x = new MasterHeap();
    private final SlowHeap y = new SlowHeap();
    private final StringBuilder run = new StringBuilder();
    private final boolean crowded;

    private FuzzTest(long seed) {
        random = new Random(seed);
        crowded = random.nextInt(3) > 0;
        startSomehow();
    }

    private int any(int from, int to) {
        return from + random.nextInt(to - from + 1);
    }

    /** Mostly one of the range, now and then one that is wrong. */
    private int mostly(int from, int to) {
        int[] wrong = {from - 1, to + 1, Integer.MIN_VALUE, Integer.MAX_VALUE, -3};
        return random.nextInt(25) == 0 ? wrong[random.nextInt(wrong.length)] : any(from, to);
    }

    private int handle() {
        return mostly(0, 7);
    }

    private int size() {
        return crowded ? mostly(1, random.nextInt(6) == 0 ? 60 : 14) : mostly(1, 60);
    }

    private int value() {
        return random.nextBoolean() ? any(-5, 200 * 64) : random.nextInt();
    }

    private static int bit(boolean b) {
        return b ? 1 : 0;
    }

    private void same(String call, int got, int want) {
        if (got != want) {
            System.out.println(run);
            throw new AssertionError(call + " answered " + got + ", due is " + want);
        }
    }

    private void note(String call, int answer) {
        run.append(call).append(" = ").append(answer).append('\n');
    }

    private void startSomehow() {
        int size = crowded ? mostly(8, 100) : mostly(8, 200);
        int most = random.nextInt(3) == 0 ? size : mostly(Math.max(8, Math.min(size, 200)), 200);
        String call = "start(" + size + ", " + most + ")";
        int got = bit(x.start(size, most));
        note(call, got);
        same(call, got, bit(y.start(size, most)));
    }

    private void act() {
        int h = handle();
        int n = size();
        int k = mostly(0, 10);
        int v = value();
        int p = mostly(0, 2);
        int c = mostly(0, 9);
        boolean is = random.nextInt(4) > 0;
        int kind = random.nextInt(70);
        String call;
        int got;
        int want;
        if (kind < 16) {
            call = "make(" + n + ", " + c + ")"; got = x.make(n, c); want = y.make(n, c);
        } else if (kind < 20) {
            call = "put(" + h + ", " + k + ", " + v + ")"; got = x.put(h, k, v); want = y.put(h, k, v);
        } else if (kind < 22) {
            call = "set(" + p + ", " + k + ", " + v + ")"; got = x.set(p, k, v); want = y.set(p, k, v);
        } else if (kind < 24) {
            call = "touch(" + h + ")"; got = bit(x.touch(h)); want = bit(y.touch(h));
        } else if (kind < 26) {
            call = "lock(" + h + ")"; got = x.lock(h); want = y.lock(h);
        } else if (kind < 29) {
            call = "unlock(" + h + ")"; got = x.unlock(h); want = y.unlock(h);
        } else if (kind < 31) {
            call = "high(" + h + ")"; got = x.high(h); want = y.high(h);
        } else if (kind < 36) {
            call = "mark(" + h + ", " + is + ")"; got = bit(x.mark(h, is)); want = bit(y.mark(h, is));
        } else if (kind < 40) {
            call = "drop(" + h + ")"; got = bit(x.drop(h)); want = bit(y.drop(h));
        } else if (kind < 44) {
            call = "least(" + h + ", " + k + ")"; got = x.least(h, k); want = y.least(h, k);
        } else if (kind < 45) {
            call = "purge(" + h + ")"; got = bit(x.purge(h)); want = bit(y.purge(h));
        } else if (kind < 49) {
            call = "remake(" + h + ")"; got = x.remake(h); want = y.remake(h);
        } else if (kind < 55) {
            call = "resize(" + h + ", " + n + ")"; got = x.resize(h, n); want = y.resize(h, n);
        } else if (kind < 58) {
            call = "fix(" + n + ")"; got = x.fix(n); want = y.fix(n);
        } else if (kind < 59) {
            call = "unfix(" + p + ")"; got = bit(x.unfix(p)); want = bit(y.unfix(p));
        } else if (kind < 62) {
            call = "reserve(" + n + ")"; got = x.reserve(n); want = y.reserve(n);
        } else if (kind < 63) {
            call = "compact()"; got = x.compact(); want = y.compact();
        } else if (kind < 65) {
            int policy = mostly(0, 4);
            call = "policy(" + policy + ")"; got = x.policy(policy); want = y.policy(policy);
        } else {
            call = "undo()"; got = x.undo(); want = y.undo();
        }
        note(call, got);
        same(call, got, want);
    }

    private void compareState() {
        for (int what = -1; what <= 8; what++) {
            same("count(" + what + ")", x.count(what), y.count(what));
            same("free(" + what + ")", x.free(what), y.free(what));
        }
        for (int h = -1; h <= 8; h++) {
            for (int what = -1; what <= 9; what++) {
                same("handle(" + h + ", " + what + ")", x.handle(h, what), y.handle(h, what));
            }
            for (int k = -1; k <= 60; k += 1 + random.nextInt(4)) {
                same("get(" + h + ", " + k + ")", x.get(h, k), y.get(h, k));
            }
            same("order(" + h + ")", x.order(h), y.order(h));
        }
        for (int p = -1; p <= 3; p++) {
            for (int what = -1; what <= 2; what++) {
                same("pointer(" + p + ", " + what + ")", x.pointer(p, what), y.pointer(p, what));
            }
        }
        for (int k = -1; k <= 25; k++) {
            for (int what = -1; what <= 3; what++) {
                same("block(" + k + ", " + what + ")", x.block(k, what), y.block(k, what));
            }
        }
        for (int k = -1; k <= 201; k += 1 + random.nextInt(2)) {
            same("cell(" + k + ")", x.cell(k), y.cell(k));
            same("after(" + k + ")", x.after(k), y.after(k));
        }
    }

    private int tornValue(int k) {
        switch (random.nextInt(5)) {
            case 0: return value();
            case 1: return x.cell(k) + any(-2, 2);
            case 2: return x.cell(k) + 64 * any(-3, 3);
            case 3: return 64 * any(0, 30);
            default: return 64 * any(0, 30) + (random.nextBoolean() ? any(1, 8) : any(33, 35));
        }
    }

    private void compareAsked() {
        for (int turn = 0; turn < 8; turn++) {
            int k = random.nextInt(4) == 0 ? mostly(0, y.now.size - 1)
                    : y.block(any(0, y.now.blocks.size() - 1), 0);
            int v = tornValue(k);
            same("torn(" + k + ", " + v + ")", x.torn(k, v), y.torn(k, v));
        }
        int size = random.nextBoolean() ? mostly(1, 199) : any(1, 30);
        for (int what = -1; what <= 5; what++) {
            same("would(" + size + ", " + what + ")", x.would(size, what), y.would(size, what));
        }
        for (int what = -1; what <= 2; what++) {
            same("cheapest(" + size + ", " + what + ")", x.cheapest(size, what), y.cheapest(size, what));
        }
        for (int turn = 0; turn < 3; turn++) {
            int a = mostly(0, crowded ? 25 : 70);
            int b = mostly(0, crowded ? 25 : 70);
            int c = mostly(0, crowded ? 25 : 70);
            same("three(" + a + ", " + b + ", " + c + ")", bit(x.three(a, b, c)), bit(y.three(a, b, c)));
        }
        if (random.nextInt(3) == 0) {
            for (int what = -1; what <= 2; what++) {
                same("fewest(" + size + ", " + what + ")", x.fewest(size, what), y.fewest(size, what));
            }
        }
        if (random.nextInt(8) == 0) {
            for (int what = -1; what <= 3; what++) {
                same("greatest(" + what + ")", x.greatest(what), y.greatest(what));
            }
        }
    }

    private void go(int calls) {
        for (int k = 0; k < calls; k++) {
            if (random.nextInt(150) == 0) {
                startSomehow();
            }
            act();
            compareState();
            if (random.nextInt(4) == 0) {
                compareAsked();
            }
        }
    }

    public static void main(String[] args) {
        long first = args.length > 0 ? Long.parseLong(args[0]) : 1;
        int runs = args.length > 1 ? Integer.parseInt(args[1]) : 600;
        for (long seed = first; seed < first + runs; seed++) {
            try {
                new FuzzTest(seed).go(150);
            } catch (AssertionError | RuntimeException wrong) {
                System.out.println("FuzzTest: seed " + seed + ": " + wrong);
                wrong.printStackTrace(System.out);
                System.exit(1);
            }
        }
        System.out.println("FuzzTest: " + runs + " runs, all answers are the same");
    }
}
