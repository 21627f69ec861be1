import java.math.BigInteger;
import java.util.function.Consumer;

/** Forms that the tests start from, and what can be seen of a form, told as one text or hash. */
final class Forms {
    static final int NONE = TickForms.NONE;
    static final int LEAST_INT = Integer.MIN_VALUE;
    static final int MOST_INT = Integer.MAX_VALUE;
    static final Class<?> NO_SUCH = IndexOutOfBoundsException.class;
    static final Class<?> UNFIT = IllegalArgumentException.class;
    static final Class<?> NOT_NOW = IllegalStateException.class;

    /** Something that is done with a form. */
    interface Act {
        long on(TickForms x);
    }

    /** A way to a form, so that the same one can be made twice. */
    interface Way {
        TickForms make();
    }

    private Forms() {
    }

    static void type(TickForms x, String text) {
        for (int i = 0; i < text.length(); i++) {
            x.append(text.charAt(i));
        }
    }

    static TickForms typed(String text) {
        TickForms x = new TickForms();
        type(x, text);
        return x;
    }

    /** Combs with one tooth in the part 0. */
    static TickForms combs(int number) {
        TickForms x = new TickForms();
        for (int b = 0; b < number; b++) {
            x.comb(0, 1);
        }
        return x;
    }

    /** A comb, a tick for the part 1, a skip for the part 2, a total, a comb in the part 1. */
    static TickForms oneOfEach() {
        TickForms x = new TickForms();
        x.comb(0, 2);
        x.tick(0, 1);
        x.skip(0, 2, 50);
        x.total(0, 1);
        x.comb(1, 5);
        return x;
    }

    /** Like oneOfEach, but with answers, six saved states, and a text that fill can take. */
    static TickForms answered() {
        TickForms x = oneOfEach();
        x.answer(0, 42);
        x.answer(1, 1);
        x.answer(2, 50);
        x.answer(4, 12345);
        type(x, "0=7,1=0");
        return x;
    }

    /** No more boxes, no more saved states, and no more signs can come in. */
    static TickForms full() {
        TickForms x = combs(12);
        x.tick(0, 1);
        x.skip(0, 2, 0);
        x.total(4, 4095);
        x.total(0, 1 << 14);
        for (int i = 0; i < 60; i++) {
            x.append('0' + i % 10);
        }
        return x;
    }

    /** All that the looks tell, but the saved states and the buffer. */
    static String looks(TickForms x) {
        StringBuilder all = new StringBuilder();
        for (int what = 0; what < 8; what++) {
            all.append(x.count(what)).append(' ');
        }
        for (int b = 0; b < x.count(0); b++) {
            for (int what = 0; what < 8; what++) {
                all.append(x.box(b, what)).append(' ');
            }
        }
        for (int p = 0; p < 5; p++) {
            for (int what = 0; what < 6; what++) {
                all.append(x.part(p, what)).append(' ');
            }
        }
        return all.append(x.shortest()).append(' ').append(x.mostCarried()).append(' ')
            .append(x.filled()).toString();
    }

    /** Everything there is in a form: what it tells now, and after each undo. It is used up. */
    static String trail(TickForms x) {
        StringBuilder all = new StringBuilder();
        all.append(looks(x)).append('|').append(x.digest()).append('|').append(x.firstError());
        for (int i = 0; i < 9 && x.count(8) > 0; i++) {
            x.undo();
            all.append('|').append(looks(x)).append('|').append(x.digest());
        }
        return all.append('|').append(x.clearBuffer()).toString();
    }

    /** The call is refused, and leaves the form as a second one that never saw the call. */
    static void refused(Way way, String what, Class<?> want, Act call) {
        TickForms called = way.make();
        Check.refused(called, what, want, () -> call.on(called));
        Check.same(what + ": all as before", trail(way.make()), trail(called));
    }

    /** Saves the state from before it, be it the first or the seventh; a refused one saves none. */
    static void undoable(Consumer<TickForms> build, Act good, Act refused) {
        for (int calls = 0; calls <= 7; calls++) {
            TickForms x = new TickForms();
            for (int i = 0; i < calls; i++) {
                x.clear();
            }
            build.accept(x);
            String before = looks(x);
            int saved = x.count(8);
            Check.outcome(() -> refused.on(x));
            Check.due("a refused call saves none", saved, x.count(8));
            good.on(x);
            int then = Math.min(saved + 1, 6);
            Check.due("it saves one", then, x.count(8));
            Check.due("it is undone", then - 1, x.undo());
            Check.same("the state from before it", before, looks(x));
        }
    }

    /** Takes no state from those that are saved, and adds none, whatever it answers. */
    static void savesNothing(Act call) {
        for (Way way : new Way[] {TickForms::new, Forms::oneOfEach, Forms::answered, Forms::full}) {
            TickForms called = way.make();
            Check.outcome(() -> call.on(called));
            TickForms other = way.make();
            called.clearBuffer();
            other.clearBuffer();
            Check.same("all as before, but the buffer", trail(other), trail(called));
        }
    }

    /** The hash that promise 21 tells, by whole numbers without a bound, cut to a long at last. */
    static long hash(long... values) {
        BigInteger hash = BigInteger.valueOf(3389);
        for (long v : values) {
            hash = hash.multiply(BigInteger.valueOf(31)).add(BigInteger.valueOf(v));
        }
        return hash.longValue();
    }

    /** The hash, told by the public face as promise 21 says it. */
    static long hashOf(TickForms x, String buffer) {
        long h = 3389;
        for (int i = 0; i <= 8; i++) {
            h = 31 * h + x.count(i);
        }
        for (int b = 0; b < x.count(0); b++) {
            for (int i = 0; i <= 7; i++) {
                h = 31 * h + x.box(b, i);
            }
            for (int i = 0; i <= 2 && x.box(b, 0) != 3; i++) {
                h = 31 * h + x.ifAnswered(b, NONE, i);
            }
        }
        for (int p = 0; p < 5; p++) {
            for (int i = 0; i <= 5; i++) {
                h = 31 * h + x.part(p, i);
            }
        }
        h = 31 * h + x.shortest();
        h = 31 * h + x.mostCarried();
        h = 31 * h + Double.doubleToLongBits(x.filled());
        h = 31 * h + buffer.length();
        for (int i = 0; i < buffer.length(); i++) {
            h = 31 * h + buffer.charAt(i);
        }
        return h;
    }
}
