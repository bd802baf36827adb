import java.util.Arrays;
import java.util.Random;
import java.util.TreeMap;

/** Long mixed runs beside the model, each the same every time, and every place where power can fail. */
public final class HistoriesTest {
    private static final int CALLS = 512;
    private static final int[] SIZES = {12, 13, 16, 20, 30, 40, 60, 90, 120};
    private static final int[] WRONG = {-2, -1, 32, 48, 255, 256, 1001, 1023, 1024, Integer.MIN_VALUE,
        Integer.MAX_VALUE};

    private final String name;
    private final DesignPages x;
    private final Model model;
    private final Random random;
    private final int amount;
    private final boolean pokes;
    private int calls = 0;
    private int pokedPage = -1;
    private int pokedByte = 0;
    private int pokedMask = 0;

    private HistoriesTest(int seed) {
        name = "history " + seed;
        random = new Random(seed);
        amount = SIZES[seed % SIZES.length];
        pokes = seed % 2 == 1;
        x = new DesignPages(amount);
        model = new Model(amount);
    }

    public static void main(String[] args) {
        for (int seed = 0; seed < 400; seed++) {
            new HistoriesTest(seed).run();
        }
        for (int page = 1; page <= 60; page++) {
            failAt(page);
        }
        oneChangedByte();
        sameCallsSameAnswers();
        Check.end();
    }

    private void run() {
        while (calls < CALLS) {
            step();
        }
    }

    private void due(String call, int got, int want) {
        calls++;
        Check.due(name + ", call " + calls + ": " + call, got, want);
    }

    private void step() {
        int dice = random.nextInt(100);
        if (dice < 20) {
            int b = odd() ? wrong() : random.nextInt(256);
            due("type(" + b + ")", x.type(b), model.type(b));
        } else if (dice < 40) {
            int key = key();
            due("put(" + key + ")", x.put(key), model.put(key));
        } else if (dice < 48) {
            int key = key();
            due("remove(" + key + ")", x.remove(key), model.remove(key));
        } else if (dice < 53) {
            int version = version();
            due("drop(" + version + ")", x.drop(version), model.drop(version));
        } else if (dice < 80) {
            ask(dice % 5);
        } else if (dice < 84) {
            int n = odd() ? wrong() : random.nextInt(14) - 1;
            due("crash(" + n + ")", x.crash(n), model.crash(n));
        } else if (dice < 88 || model.isDown() && dice < 95) {
            due("reopen()", x.reopen(), model.reopen());
        } else if (pokes) {
            poke();
        }
        if (calls < CALLS) {
            lookAround();
        }
    }

    private void ask(int which) {
        int version = version();
        int key = key();
        if (which == 0) {
            due("length(" + version + ", " + key + ")", x.length(version, key), model.length(version, key));
        } else if (which == 1) {
            int i = odd() ? wrong() : random.nextInt(4);
            due("find(" + version + ", " + key + ", " + i + ")", x.find(version, key, i),
                    model.find(version, key, i));
        } else if (which == 2) {
            due("next(" + version + ", " + key + ")", x.next(version, key), model.next(version, key));
        } else {
            int what = odd() ? wrong() : random.nextInt(5);
            due("count(" + what + ")", x.count(what), model.count(what));
        }
    }

    /** One byte at a time is changed, and as a rule mended again. */
    private void poke() {
        if (pokedPage >= 0) {
            due("poke back", x.poke(pokedPage, pokedByte, pokedMask), model.poke(pokedPage, pokedByte, pokedMask));
            pokedPage = -1;
            return;
        }
        int page = odd() ? wrong() : random.nextInt(amount);
        int i = random.nextInt(48);
        int mask = odd() ? wrong() : 1 + random.nextInt(255);
        int want = model.poke(page, i, mask);
        due("poke(" + page + ", " + i + ", " + mask + ")", x.poke(page, i, mask), want);
        if (want != DesignPages.OUTSIDE) {
            pokedPage = page;
            pokedByte = i;
            pokedMask = mask;
        }
    }

    private void lookAround() {
        int which = random.nextInt(6);
        if (which == 0) {
            due("badAt()", x.badAt(), model.badAt());
        } else if (which == 1) {
            due("written()", x.written(), model.written());
        } else if (which == 2) {
            due("isDown()", x.isDown() ? 1 : 0, model.isDown() ? 1 : 0);
        } else {
            int page = odd() ? wrong() : random.nextInt(amount);
            int i = odd() ? wrong() : random.nextInt(48);
            due("byteAt(" + page + ", " + i + ")", x.byteAt(page, i), model.byteAt(page, i));
        }
    }

    private boolean odd() {
        return random.nextInt(12) == 0;
    }

    private int wrong() {
        return WRONG[random.nextInt(WRONG.length)];
    }

    private int key() {
        if (odd()) {
            return wrong();
        }
        return random.nextInt(3) == 0 ? random.nextInt(1024) : random.nextInt(4) * 32 + random.nextInt(3);
    }

    private int version() {
        return odd() ? wrong() : model.newest() + 1 - random.nextInt(10);
    }

    /** Wherever the power fails, the kept versions have what they had, and one more at most is there. */
    private static void failAt(int page) {
        DesignPages x = new DesignPages(40);
        TreeMap<Integer, Integer> keys = new TreeMap<>();
        int had = 0;
        x.crash(page);
        for (int v = 1; !x.isDown() && v < 40; v++) {
            x.type(v);
            int answer = x.put(v * 7);
            Check.due("power fails at " + page + ": put " + v, answer, x.isDown() ? DesignPages.CUT : v);
            if (!x.isDown()) {
                had = v;
                keys.put(v * 7, v);
            }
        }
        boolean rootWasLast = page % 3 == 0;
        Check.due("power fails at " + page + ": reopen", x.reopen(), rootWasLast ? had + 1 : had);
        Check.due("power fails at " + page + ": badAt", x.badAt(), DesignPages.NONE);
        Check.due("power fails at " + page + ": keys", x.count(3), keys.size() + (rootWasLast ? 1 : 0));
        for (int version = Math.max(1, x.count(1)); version <= had; version++) {
            for (int v = 1; v <= had; v++) {
                Check.due("power fails at " + page + ": key " + v * 7 + " at " + version,
                        x.find(version, v * 7, 0), v <= version ? v : DesignPages.NONE);
            }
        }
    }

    /** Any mask on any byte of a page that is reached is found. */
    private static void oneChangedByte() {
        for (int mask = 1; mask < 256; mask++) {
            DesignPages x = new DesignPages(12);
            x.type(mask);
            x.put(mask);
            int[] reached = {1, 8, 9};
            for (int i = 0; i < 48; i++) {
                int page = reached[(i + mask) % 3];
                x.poke(page, i, mask);
                Check.due("mask " + mask + " on byte " + i, x.badAt(), page);
                x.poke(page, i, mask);
            }
            Check.due("mask " + mask + " taken back", x.badAt(), DesignPages.NONE);
        }
    }

    private static void sameCallsSameAnswers() {
        Check.due("the same calls give the same answers", Arrays.equals(answers(), answers()), true);
    }

    private static int[] answers() {
        DesignPages x = new DesignPages(25);
        Random random = new Random(7);
        int[] answers = new int[400];
        for (int i = 0; i < answers.length; i += 4) {
            answers[i] = x.type(random.nextInt(256));
            answers[i + 1] = x.put(random.nextInt(8));
            answers[i + 2] = x.drop(x.count(0) - 1 - random.nextInt(3));
            answers[i + 3] = x.byteAt(random.nextInt(25), random.nextInt(48));
        }
        return answers;
    }
}
