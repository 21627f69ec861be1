/**
 * Runs of calls told by a written-out generator, the same ones each time, on TickForms and on the
 * model: each answer, each exception and, after each call, the digest.
 */
public final class RandomRunsTest {
    private static final int RUNS = 500;
    private static final int STEPS = 80;
    private static final int EMPTY_FOR_ALL_SETS = 7;

    private long seed;
    private final TickForms real = new TickForms();
    private final Model model = new Model();
    private final int manyBoxes;

    private RandomRunsTest(int run) {
        seed = run * 7919L + 17L;
        manyBoxes = 4 + run % 13;
    }

    public static void main(String[] args) {
        for (int run = 0; run < RUNS; run++) {
            RandomRunsTest it = new RandomRunsTest(run);
            for (int step = 0; step < STEPS; step++) {
                it.step("run " + run + ", step " + step);
            }
        }
        Check.end("RandomRunsTest");
    }

    private int below(int bound) {
        seed = seed * 6364136223846793005L + 1442695040888963407L;
        return (int) ((seed >>> 33) % bound);
    }

    private int from(int least, int most) {
        return least + below(most - least + 1);
    }

    private void step(String where) {
        int boxes = model.count(0);
        int dice = below(100);
        if (dice < (boxes < manyBoxes ? 45 : 6)) {
            addBox(where);
        } else if (dice < 70) {
            int box = from(-1, boxes);
            int value = anAnswer();
            same(where + " answer " + box + " " + value,
                () -> real.answer(box, value), () -> model.answer(box, value));
        } else if (dice < 80) {
            look(where);
        } else if (dice < 88) {
            write(where);
        } else {
            rare(where, dice);
        }
        Check.due(where + " digest", model.digest(), real.digest());
        if (model.empty() <= EMPTY_FOR_ALL_SETS) {
            Check.due(where + " shortest", model.shortestByAllSets(), model.shortest());
        }
    }

    private void addBox(String where) {
        int part = below(20) == 0 ? from(-1, 5) : below(5);
        int to = below(8) == 0 ? from(-2, 5) : from(Math.min(part + 1, 4), 4);
        int limit = below(3) == 0 ? 0 : from(-1, 100);
        int mask = below(10) == 0 ? from(-1, 65536) : aMask();
        switch (below(4)) {
            case 0 -> {
                int teeth = below(10) == 0 ? from(-1, 6) : from(1, 5);
                same(where + " comb", () -> real.comb(part, teeth), () -> model.comb(part, teeth));
            }
            case 1 -> same(where + " tick", () -> real.tick(part, to), () -> model.tick(part, to));
            case 2 -> same(where + " skip",
                () -> real.skip(part, to, limit), () -> model.skip(part, to, limit));
            default -> same(where + " total " + mask,
                () -> real.total(part, mask), () -> model.total(part, mask));
        }
    }

    /** A mask of combs and totals that are there, mostly. */
    private int aMask() {
        int mask = 0;
        for (int b = 0; b < model.count(0); b++) {
            int kind = model.box(b, 0);
            if (below(2) == 0 && (kind == 0 || kind == 3)) {
                mask |= 1 << b;
            }
        }
        return mask;
    }

    private int anAnswer() {
        int[] edges = {-2, -1, 0, 1, 2, 9, 10, 50, 99, 100, 999, 1000, 9999, 10000, 99999, 100000};
        int dice = below(10);
        return dice < 4 ? below(2) : dice < 6 ? from(-1, 99) : edges[below(edges.length)];
    }

    private void look(String where) {
        int box = from(-1, model.count(0));
        int what = from(-1, 9);
        int value = anAnswer();
        same(where + " box", () -> real.box(box, what), () -> model.box(box, what));
        int part = from(-1, 5);
        same(where + " part", () -> real.part(part, what), () -> model.partLook(part, what));
        same(where + " count", () -> real.count(what), () -> model.count(what));
        int trial = from(-1, 3);
        same(where + " ifAnswered " + box + " " + value + " " + trial,
            () -> real.ifAnswered(box, value, trial), () -> model.ifAnswered(box, value, trial));
        same(where + " shortest", real::shortest, model::shortest);
        same(where + " mostCarried", real::mostCarried, model::mostCarried);
        Check.dueShare(where + " filled", model.filled(), real.filled());
    }

    /** Answers as a text, now and then with a wrong sign, a sign too many or one too few. */
    private void write(String where) {
        StringBuilder text = new StringBuilder();
        int answers = from(1, 4);
        for (int i = 0; i < answers; i++) {
            int box = below(6) == 0 ? below(16) : below(Math.max(model.count(0), 1));
            int value = Math.max(anAnswer(), -1);
            text.append(i == 0 ? "" : ",").append(box).append('=');
            text.append(value == -1 ? "-" : "" + value % 100000);
        }
        if (below(4) == 0) {
            text.setCharAt(below(text.length()), "0123456789=-,!~".charAt(below(15)));
        }
        if (below(6) == 0) {
            text.deleteCharAt(below(text.length()));
        }
        if (below(6) == 0) {
            text.append((char) from(30, 130));
        }
        for (int i = 0; i < text.length(); i++) {
            char code = text.charAt(i);
            same(where + " append", () -> real.append(code), () -> model.append(code));
        }
        same(where + " error in " + text, real::firstError, model::firstError);
        same(where + " fill " + text, real::fill, model::fill);
    }

    private void rare(String where, int dice) {
        if (dice < 92) {
            same(where + " drop", real::drop, model::drop);
        } else if (dice < 97) {
            same(where + " undo", real::undo, model::undo);
        } else if (dice < 99) {
            same(where + " clearBuffer", real::clearBuffer, model::clearBuffer);
        } else {
            same(where + " clear", real::clear, model::clear);
        }
    }

    private static void same(String what, Check.Call real, Check.Call model) {
        Check.same(what, Check.outcome(model), Check.outcome(real));
    }
}
