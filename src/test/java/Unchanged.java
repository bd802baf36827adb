import java.util.ArrayList;
import java.util.List;
import java.util.function.Consumer;
import java.util.function.Function;
import java.util.function.Supplier;
import java.util.function.ToIntFunction;

/**
 * Calls that must leave a store as it was: two stores are made alike, one has the call, and both are
 * asked for all that can be seen. An object answers 512 calls only, so each view has objects of its own.
 */
final class Unchanged {
    private static final int PAGES_OF_A_VIEW = 4;
    private static final int[] KEYS = {0, 1, 5, 7, 31, 32, 40, 1023};

    private final String what;
    private final Supplier<DesignPages> made;
    private final ToIntFunction<DesignPages> call;

    private Unchanged(String what, Supplier<DesignPages> made, ToIntFunction<DesignPages> call) {
        this.what = what;
        this.made = made;
        this.call = call;
    }

    /** The call answers what is due, and changes nothing. */
    static void due(String what, Supplier<DesignPages> made, ToIntFunction<DesignPages> call, int want) {
        due(what, made, call, want, x -> { });
    }

    /** So too if later calls tell more only behind a mending (of damage, say). */
    static void due(String what, Supplier<DesignPages> made, ToIntFunction<DesignPages> call, int want,
            Consumer<DesignPages> mend) {
        Check.due(what, call.applyAsInt(made.get()), want);
        Unchanged both = new Unchanged(what, made, call);
        both.same("what is told", Unchanged::told);
        both.same("what comes then", x -> {
            mend.accept(x);
            return then(x);
        });
        both.same("what was typed", x -> {
            mend.accept(x);
            return typed(x);
        });
        both.failingSoon().same("where the power fails", x -> {
            mend.accept(x);
            return then(x);
        });
        for (int page = 0; made.get().byteAt(page, 0) != DesignPages.OUTSIDE; page += PAGES_OF_A_VIEW) {
            int first = page;
            both.same("pages from " + first, x -> bytes(x, first));
        }
    }

    /** The same with a failure told before the call: the call must leave that one page, too. */
    private Unchanged failingSoon() {
        return new Unchanged(what, () -> {
            DesignPages x = made.get();
            x.crash(1);
            return x;
        }, call);
    }

    private void same(String view, Function<DesignPages, List<Integer>> seen) {
        DesignPages with = made.get();
        call.applyAsInt(with);
        List<Integer> got = seen.apply(with);
        List<Integer> want = seen.apply(made.get());
        Check.due(what + " changes nothing, " + view + ", answers", got.size(), want.size());
        for (int i = 0; i < Math.min(got.size(), want.size()); i++) {
            Check.due(what + " changes nothing, " + view + ", answer " + i, got.get(i), want.get(i));
        }
    }

    private static List<Integer> bytes(DesignPages x, int first) {
        List<Integer> seen = new ArrayList<>();
        for (int page = first; page < first + PAGES_OF_A_VIEW; page++) {
            for (int i = 0; i < Image.BYTES; i++) {
                seen.add(x.byteAt(page, i));
            }
        }
        return seen;
    }

    private static List<Integer> told(DesignPages x) {
        List<Integer> seen = new ArrayList<>();
        counts(x, seen);
        int newest = x.count(0);
        for (int version = newest - 8; version <= newest + 1; version++) {
            seen.add(x.next(version, 0));
            for (int key : KEYS) {
                seen.add(x.length(version, key));
                seen.add(x.find(version, key, 0));
            }
        }
        return seen;
    }

    /** What was typed shows in a put(), for which pages come free first: a refused one would be a call more. */
    private static List<Integer> typed(DesignPages x) {
        List<Integer> seen = new ArrayList<>();
        for (int key : KEYS) {
            seen.add(x.drop(x.count(0) - 1));
            seen.add(x.remove(key));
        }
        seen.add(x.drop(x.count(0) - 1));
        int version = x.put(3);
        seen.add(version);
        for (int b = 0; b <= 32; b++) {
            seen.add(x.find(version, 3, b));
        }
        return seen;
    }

    /** What is not told at once shows in what later calls write, and in where the power fails. */
    private static List<Integer> then(DesignPages x) {
        List<Integer> seen = new ArrayList<>();
        for (int round = 0; round < 2; round++) {
            for (int i = 0; i < 10; i++) {
                int version = x.put(3);
                seen.add(version);
                for (int b = 0; i < 2 && b <= 32; b++) {
                    seen.add(x.find(version, 3, b));
                }
                seen.add(x.drop(version - (i < 2 ? 1 : 2)));
                seen.add(x.drop(x.count(0) - 1));
            }
            counts(x, seen);
            seen.add(x.reopen());
        }
        return seen;
    }

    private static void counts(DesignPages x, List<Integer> seen) {
        for (int what = 0; what <= 4; what++) {
            seen.add(x.count(what));
        }
        seen.add(x.badAt());
        seen.add(x.written());
        seen.add(x.isDown() ? 1 : 0);
    }
}
