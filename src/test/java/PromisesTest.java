/** Each promise of the document by its number: ordinary inputs, edges, and wrong inputs. */
public final class PromisesTest {
    private static final int NONE = Forms.NONE;
    private static final Class<?> NO_SUCH = Forms.NO_SUCH;
    private static final Class<?> UNFIT = Forms.UNFIT;
    private static final Class<?> NOT_NOW = Forms.NOT_NOW;
    private static final int LEAST_INT = Forms.LEAST_INT;
    private static final int MOST_INT = Forms.MOST_INT;

    private PromisesTest() {
    }

    public static void main(String[] args) {
        newObject();
        comb();
        tick();
        skip();
        total();
        fullForm();
        drop();
        dropLeavesNothing();
        answer();
        clear();
        append();
        clearBuffer();
        firstError();
        fill();
        fillRefused();
        undo();
        undoOfEach();
        boxLooks();
        boxValues();
        partLooks();
        openParts();
        counts();
        ifAnswered();
        ifAnsweredLastTotal();
        shortest();
        shortestOfSkips();
        mostCarried();
        filled();
        digest();
        digestOfState();
        Check.end("PromisesTest");
    }

    // ---- helpers

    /** Promise 1's words as numbers: no boxes, nothing saved, all parts open, nothing written. */
    private static void dueEmpty(String what, TickForms x) {
        long[] counts = {0, 0, 0, NONE, 1, 5, 31, 0, 0};
        for (int i = 0; i < counts.length; i++) {
            Check.due(what + " count " + i, counts[i], x.count(i));
        }
    }

    // ---- the promises

    private static void newObject() {
        TickForms x = new TickForms();
        dueEmpty("1", x);
        Check.due("1 buffer", 0, x.clearBuffer());
        Check.due("1 error", 0, x.firstError());
        Check.due("1 shortest", 0, x.shortest());
        Check.due("1 carried", NONE, x.mostCarried());
        Check.dueShare("1 filled", 1.0, x.filled());
        Check.due("1 NONE", -1, TickForms.NONE);
        TickForms other = new TickForms();
        other.comb(0, 1);
        other.append('1');
        Check.due("1 objects are apart", 0, x.count(0));
        Check.due("1 buffers are apart", 0, x.clearBuffer());
    }

    private static void comb() {
        TickForms x = new TickForms();
        for (int teeth = 1; teeth <= 5; teeth++) {
            Check.due("2 number", teeth - 1, x.comb(teeth - 1, teeth));
            Check.due("2 kind", 0, x.box(teeth - 1, 0));
            Check.due("2 part", teeth - 1, x.box(teeth - 1, 1));
            Check.due("2 teeth", teeth, x.box(teeth - 1, 2));
            Check.due("2 empty", NONE, x.box(teeth - 1, 4));
            Check.due("2 saved", teeth, x.count(8));
        }
        for (int part : new int[] {-1, 5, LEAST_INT, MOST_INT}) {
            Check.refused(x, "2 part " + part, NO_SUCH, () -> x.comb(part, 1));
            Check.refused(x, "2 part first " + part, NO_SUCH, () -> x.comb(part, 0));
        }
        for (int teeth : new int[] {0, 6, -1, LEAST_INT, MOST_INT}) {
            Check.refused(x, "2 teeth " + teeth, UNFIT, () -> x.comb(4, teeth));
        }
    }

    private static void tick() {
        TickForms x = new TickForms();
        int box = 0;
        for (int part = 0; part < 5; part++) {
            Check.due("3 for none", box, x.tick(part, NONE));
            Check.due("3 kind", 1, x.box(box, 0));
            Check.due("3 part", part, x.box(box, 1));
            Check.due("3 opens none", NONE, x.box(box, 2));
            box++;
            if (part < 4) {
                Check.due("3 next part", box, x.tick(part, part + 1));
                Check.due("3 opens next", part + 1, x.box(box, 2));
                box++;
                Check.due("3 last part", box, x.tick(part, 4));
                Check.due("3 opens last", 4, x.box(box, 2));
                box++;
            }
        }
        Check.due("3 saved", 6, x.count(8));
        for (int part : new int[] {-1, 5, LEAST_INT, MOST_INT}) {
            Check.refused(x, "3 part " + part, NO_SUCH, () -> x.tick(part, 9));
        }
        for (int opens : new int[] {-2, 0, 1, 2, 5, LEAST_INT, MOST_INT}) {
            Check.refused(x, "3 opens " + opens, UNFIT, () -> x.tick(2, opens));
        }
        Check.refused(x, "3 part 4 opens 4", UNFIT, () -> x.tick(4, 4));
        Check.refused(x, "3 part 4 opens 5", UNFIT, () -> x.tick(4, 5));
    }

    private static void skip() {
        TickForms x = new TickForms();
        Check.due("4 number", 0, x.skip(0, 1, 0));
        Check.due("4 number", 1, x.skip(3, 4, 99));
        Check.due("4 number", 2, x.skip(0, 4, 50));
        long[] due = {2, 3, 4, 99, NONE, NONE};
        for (int what = 0; what < due.length; what++) {
            Check.due("4 look " + what, due[what], x.box(1, what));
        }
        Check.due("4 limit 0", 0, x.box(0, 3));
        Check.due("4 saved", 3, x.count(8));
        for (int part : new int[] {-1, 4, 5, LEAST_INT, MOST_INT}) {
            Check.refused(x, "4 part " + part, NO_SUCH, () -> x.skip(part, 4, 100));
        }
        for (int closes : new int[] {NONE, 0, 1, 2, 5, LEAST_INT, MOST_INT}) {
            Check.refused(x, "4 closes " + closes, UNFIT, () -> x.skip(2, closes, 0));
        }
        for (int limit : new int[] {-1, 100, LEAST_INT, MOST_INT}) {
            Check.refused(x, "4 limit " + limit, UNFIT, () -> x.skip(0, 1, limit));
        }
    }

    private static void total() {
        TickForms x = new TickForms();
        x.comb(0, 2);
        x.tick(0, NONE);
        x.skip(0, 1, 3);
        Check.due("5 number", 3, x.total(1, 1));
        Check.due("5 of a total", 4, x.total(4, 9));
        Check.due("5 of none", 5, x.total(0, 0));
        Check.due("5 kind", 3, x.box(4, 0));
        Check.due("5 part", 4, x.box(4, 1));
        Check.due("5 mask", 9, x.box(4, 2));
        Check.due("5 no limit", NONE, x.box(4, 3));
        Check.due("5 saved", 6, x.count(8));
        for (int part : new int[] {-1, 5, LEAST_INT, MOST_INT}) {
            Check.refused(x, "5 part " + part, NO_SUCH, () -> x.total(part, -1));
        }
        for (int mask : new int[] {-1, 65536, 65537, LEAST_INT, MOST_INT, 65535}) {
            Check.refused(x, "5 mask " + mask, UNFIT, () -> x.total(0, mask));
        }
        Check.refused(x, "5 a tick", UNFIT, () -> x.total(0, 3));
        Check.refused(x, "5 a skip", UNFIT, () -> x.total(0, 5));
        Check.refused(x, "5 itself", UNFIT, () -> x.total(0, 64));
        Check.refused(x, "5 not there", UNFIT, () -> x.total(0, 1 << 15));
        x.drop();
        Check.refused(x, "5 no more there", UNFIT, () -> x.total(0, 32));
        TickForms y = new TickForms();
        y.tick(0, 1);
        Check.refused(y, "5 a tick as the box 0", UNFIT, () -> y.total(0, 1));
    }

    private static void fullForm() {
        TickForms x = new TickForms();
        for (int b = 0; b < 15; b++) {
            x.comb(0, 1);
        }
        Check.due("5 all the lower", 15, x.total(0, 32767));
        Check.refused(x, "2 full", NOT_NOW, () -> x.comb(0, 1));
        Check.refused(x, "3 full", NOT_NOW, () -> x.tick(0, 1));
        Check.refused(x, "4 full", NOT_NOW, () -> x.skip(0, 1, 0));
        Check.refused(x, "5 full", NOT_NOW, () -> x.total(0, 65535));
        Check.refused(x, "2 part before full", NO_SUCH, () -> x.comb(5, 1));
        Check.refused(x, "2 teeth before full", UNFIT, () -> x.comb(0, 0));
        Check.refused(x, "3 part before full", NO_SUCH, () -> x.tick(5, NONE));
        Check.refused(x, "3 opens before full", UNFIT, () -> x.tick(0, 0));
        Check.refused(x, "4 part before full", NO_SUCH, () -> x.skip(4, 4, 0));
        Check.refused(x, "4 limit before full", UNFIT, () -> x.skip(0, 1, 100));
        Check.refused(x, "5 part before full", NO_SUCH, () -> x.total(5, 0));
        Check.refused(x, "5 mask before full", UNFIT, () -> x.total(0, 65536));
        x.drop();
        Check.due("2 the last place", 15, x.comb(0, 1));
    }

    private static void drop() {
        TickForms x = new TickForms();
        Check.refused(x, "6 none", NOT_NOW, x::drop);
        x.comb(0, 3);
        x.tick(0, 1);
        x.skip(0, 2, 4);
        x.total(0, 1);
        x.answer(1, 1);
        for (int kind = 3; kind >= 0; kind--) {
            Check.due("6 kind", kind, x.drop());
            Check.due("6 boxes left", kind, x.count(0));
        }
        Check.due("6 saved", 6, x.count(8));
        Check.refused(x, "6 none left", NOT_NOW, x::drop);
        Check.due("6 no box wants an answer", NONE, x.count(3));
        Check.due("6 a new box", 0, x.tick(0, 1));
        Check.due("6 it wants an answer", 0, x.count(3));
        Check.due("6 without the old answer", NONE, x.box(0, 4));
    }

    /** Six calls of clear() fill up the saved states, so that the digests can be the same. */
    private static void dropLeavesNothing() {
        TickForms never = new TickForms();
        never.comb(0, 2);
        for (int i = 0; i < 6; i++) {
            never.clear();
        }
        for (int kind = 0; kind < 5; kind++) {
            TickForms x = new TickForms();
            x.comb(0, 2);
            if (kind == 0) {
                x.comb(0, 1);
            } else if (kind == 1) {
                x.tick(0, 1);
            } else if (kind == 2) {
                x.skip(0, 1, 0);
            } else if (kind == 3) {
                x.total(0, 1);
            } else {
                x.comb(2, 1);
            }
            for (int i = 0; i < 6; i++) {
                x.clear();
            }
            x.digest();
            Check.due("6 kind", kind % 4, x.drop());
            Check.due("6 nothing is left of kind " + kind, never.digest(), x.digest());
            Check.due("6 all open", 31, x.ifAnswered(0, 5, 1));
            Check.due("6 no total", NONE, x.ifAnswered(0, 5, 2));
            Check.due("6 not carried", NONE, x.mostCarried());
        }
    }

    private static void answer() {
        TickForms x = new TickForms();
        int[] most = {9, 99, 999, 9999, 99999, 1, 99};
        for (int teeth = 1; teeth <= 5; teeth++) {
            x.comb(0, teeth);
        }
        x.tick(0, 1);
        x.skip(0, 2, 50);
        x.comb(1, 1);
        x.total(0, 1);
        for (int b = 0; b < most.length; b++) {
            int box = b;
            int inPartOne = b > 5 ? 1 : 0;
            Check.refused(x, "7 too much", UNFIT, () -> x.answer(box, most[box] + 1));
            Check.refused(x, "7 below NONE", UNFIT, () -> x.answer(box, -2));
            Check.refused(x, "7 far below", UNFIT, () -> x.answer(box, LEAST_INT));
            Check.refused(x, "7 far above", UNFIT, () -> x.answer(box, MOST_INT));
            Check.due("7 the least", 6 - b + inPartOne, x.answer(b, 0));
            Check.due("7 is kept", 0, x.box(b, 4));
            Check.due("7 emptied", 7 - b + inPartOne, x.answer(b, NONE));
            Check.due("7 is empty", NONE, x.box(b, 4));
            Check.due("7 the most", b < 5 ? 6 - b : 7 - b, x.answer(b, most[b]));
            Check.due("7 is kept", most[b], x.box(b, 4));
        }
        Check.due("7 the part's box is wanted", 1, x.count(2));
        Check.due("7 closing changes what is wanted", 0, x.answer(5, 0));
        Check.due("7 a closed box", 0, x.answer(7, 3));
        Check.due("7 it stays", 3, x.box(7, 4));
        Check.due("7 and does count later", 0, x.answer(5, 1));
        Check.due("7 saved at most", 6, x.count(8));
        Check.due("7 a total", 0, x.answer(8, NONE));
        Check.refused(x, "7 a total has no answer", UNFIT, () -> x.answer(8, 0));
        for (int box : new int[] {-1, 9, 16, LEAST_INT, MOST_INT}) {
            Check.refused(x, "7 box " + box, NO_SUCH, () -> x.answer(box, -2));
        }
    }

    private static void clear() {
        TickForms x = new TickForms();
        Check.due("8 nothing", 0, x.clear());
        Check.due("8 saved", 1, x.count(8));
        x.comb(0, 1);
        x.tick(0, 1);
        x.comb(1, 1);
        x.total(0, 1);
        x.answer(0, 0);
        x.answer(2, 5);
        Check.due("8 also one that is not open", 2, x.clear());
        Check.due("8 none has one", 0, x.count(7));
        Check.due("8 the comb", NONE, x.box(0, 4));
        Check.due("8 the closed one", NONE, x.box(2, 4));
        Check.due("8 the boxes stay", 4, x.count(0));
        Check.due("8 again", 0, x.clear());
        x.undo();
        x.undo();
        Check.due("8 undone", 5, x.box(2, 4));
    }

    private static void append() {
        TickForms x = new TickForms();
        Check.due("9 the least", 1, x.append(33));
        Check.due("9 the most", 2, x.append(126));
        for (int code : new int[] {32, 127, 0, -1, 10, 304, LEAST_INT, MOST_INT}) {
            Check.refused(x, "9 code " + code, UNFIT, () -> x.append(code));
        }
        for (int i = 3; i <= 60; i++) {
            Check.due("9 length", i, x.append('0'));
        }
        Check.refused(x, "9 full", NOT_NOW, () -> x.append('0'));
        Check.refused(x, "9 code before full", UNFIT, () -> x.append(32));
        Check.due("9 not saved", 0, x.count(8));
    }

    private static void clearBuffer() {
        TickForms x = Forms.typed("1=2");
        Check.due("10 length", 3, x.clearBuffer());
        Check.due("10 empty", 0, x.clearBuffer());
        Check.due("10 from the start", 1, x.append('x'));
        Check.due("10 error at the start", 0, x.firstError());
        Check.due("10 not saved", 0, x.count(8));
    }

    private static void firstError() {
        String[] good = {"", "0", "1", "9", "10", "15", "0=", "15=", "1=-", "1=0", "1=9", "1=99999",
            "15=12345,", "0=-,0=-,", "0=1,2=34,15=567,10=-,11=0", "12=10000,1"};
        for (String text : good) {
            Check.due("11 " + text, text.length(), Forms.typed(text).firstError());
        }
        String[] bad = {"x", "=", "-", ",", "00", "01", "16", "19", "20", "95", "1-", "1,", "100",
            "150", "1==", "1=,", "1=x", "1=-1", "1=--", "1=-=", "1=00", "1=05", "1=0-", "1=123456",
            "1=100000", "1=1-", "1=1=", "1=1,,", "1=1,=", "1=1,-", "1=1,16", "1=1,03", "1=:", "1=/",
            "/", ":", "1/", "1:", "16=", "1=1/", "1=1:"};
        for (String text : bad) {
            int last = text.equals("16=") ? 1 : text.length() - 1;
            Check.due("11 " + text, last, Forms.typed(text).firstError());
            Check.due("11 the first of " + text, last, Forms.typed(text + "?=1").firstError());
        }
        StringBuilder full = new StringBuilder();
        for (int i = 0; i < 15; i++) {
            full.append("0=1,");
        }
        Check.due("11 longer answers begin so", 60, Forms.typed(full.toString()).firstError());
        TickForms x = Forms.typed("1=?");
        x.firstError();
        Check.due("11 changes nothing", 3, x.clearBuffer());
    }

    private static void fill() {
        TickForms x = new TickForms();
        x.comb(0, 5);
        x.tick(0, 1);
        x.skip(0, 2, 50);
        x.total(0, 1);
        for (int b = 4; b < 16; b++) {
            x.comb(1, 1);
        }
        Forms.type(x, "0=99999,1=0,2=99,3=-,10=7,15=0");
        Check.due("12 all", 6, x.fill());
        Check.due("12 cleared", 0, x.clearBuffer());
        long[] due = {99999, 0, 99, NONE, NONE, NONE, NONE, NONE, NONE, NONE, 7, NONE, NONE, NONE,
            NONE, 0};
        for (int b = 0; b < due.length; b++) {
            Check.due("12 answer " + b, due[b], x.box(b, 4));
        }
        Forms.type(x, "0=1,0=-,0=20,10=-");
        Check.due("12 one after the other", 4, x.fill());
        Check.due("12 the last one counts", 20, x.box(0, 4));
        Check.due("12 emptied", NONE, x.box(10, 4));
        Forms.type(x, "0=3,1=2,2=5");
        Check.due("12 up to one that does not fit", 1, x.fill());
        Check.due("12 before it", 3, x.box(0, 4));
        Check.due("12 not itself", 0, x.box(1, 4));
        Check.due("12 none after it", 99, x.box(2, 4));
        Check.due("12 cleared", 0, x.clearBuffer());
        x.undo();
        Check.due("12 undone as one call", 20, x.box(0, 4));
        Forms.type(x, "3=0,0=3");
        Check.due("12 a total has no answer", 0, x.fill());
        x.drop();
        Forms.type(x, "15=1,0=3");
        int saved = x.count(8);
        Check.due("12 no such box", 0, x.fill());
        Check.due("12 saved at most", saved, x.count(8));
    }

    private static void fillRefused() {
        TickForms y = Forms.typed("0=1,0=2");
        Check.due("12 none given", 0, y.fill());
        Check.due("12 saved also then", 1, y.count(8));
        for (String text : new String[] {"", "1", "10", "1=", "1=1,", "1=1,1", "1=-,", "x", "1=01",
            "1=1,16=0", "1=1?", "1=-1", "01=1"}) {
            TickForms x = Forms.typed(text);
            Check.refused(x, "12 fill of " + text, UNFIT, x::fill);
            Check.due("12 the text stays", text.length(), x.clearBuffer());
        }
        TickForms z = new TickForms();
        z.comb(0, 2);
        for (String text : new String[] {"0=-", "0=0", "0=5", "0=10", "0=99"}) {
            Forms.type(z, text);
            Check.due("12 complete " + text, 1, z.fill());
        }
        Forms.type(z, "0=-,0=5,0=-");
        z.fill();
        Check.due("12 emptied at the end", NONE, z.box(0, 4));
        z.answer(0, 7);
        Forms.type(z, "0=-");
        z.fill();
        Check.due("12 emptied at the start", NONE, z.box(0, 4));
    }

    private static void undo() {
        TickForms x = new TickForms();
        Check.refused(x, "13 none", NOT_NOW, x::undo);
        for (int i = 0; i < 9; i++) {
            x.comb(0, 1);
        }
        Check.due("13 at most six", 6, x.count(8));
        for (int left = 5; left >= 0; left--) {
            Check.due("13 left", left, x.undo());
            Check.due("13 boxes", 3 + left, x.count(0));
            Check.due("13 saved", left, x.count(8));
        }
        Check.refused(x, "13 none left", NOT_NOW, x::undo);
        x.answer(0, 7);
        x.answer(0, 8);
        Check.due("13 again", 1, x.undo());
        Check.due("13 the answer of before", 7, x.box(0, 4));
        x.answer(0, 9);
        Check.due("13 a new way", 1, x.undo());
        Check.due("13 the answer of before", 7, x.box(0, 4));
        Check.due("13 to the start", 0, x.undo());
        Check.due("13 empty", NONE, x.box(0, 4));
    }

    private static void undoOfEach() {
        TickForms x = new TickForms();
        x.comb(1, 2);
        x.answer(0, 42);
        Forms.type(x, "0=4");
        x.drop();
        x.total(2, 0);
        x.undo();
        x.undo();
        long[] due = {0, 1, 2, NONE, 42};
        for (int what = 0; what < due.length; what++) {
            Check.due("13 the dropped box " + what, due[what], x.box(0, what));
        }
        Check.due("13 the buffer stays", 3, x.firstError());
        x.tick(0, 2);
        x.undo();
        x.skip(0, 3, 7);
        x.drop();
        x.skip(0, 3, 9);
        x.undo();
        x.undo();
        Check.due("13 the dropped skip's limit", 7, x.box(1, 3));
        x.undo();
        Check.due("13 one box", 1, x.count(0));
        x.fill();
        Check.due("13 filled", 4, x.box(0, 4));
        int left = x.undo();
        Check.due("13 unfilled", 42, x.box(0, 4));
        Check.due("13 the buffer stays cleared", 0, x.clearBuffer());
        x.answer(0, 42);
        x.clear();
        Check.due("13 saved also if nothing changes", left + 2, x.count(8));
        x.undo();
        Check.due("13 uncleared", 42, x.box(0, 4));
    }

    private static void boxLooks() {
        TickForms x = new TickForms();
        x.comb(0, 3);
        x.tick(0, 1);
        x.tick(1, NONE);
        x.skip(0, 2, 10);
        x.total(1, 1);
        x.answer(0, 12);
        long[][] due = {
            {0, 0, 3, NONE, 12, 12, 1, 0},
            {1, 0, 1, NONE, NONE, NONE, 1, 1},
            {1, 1, NONE, NONE, NONE, NONE, 0, 0},
            {2, 0, 2, 10, NONE, NONE, 1, 1},
            {3, 1, 1, NONE, NONE, 12, 0, 0}};
        for (int b = 0; b < due.length; b++) {
            for (int what = 0; what < 8; what++) {
                Check.due("14 box " + b + " " + what, due[b][what], x.box(b, what));
            }
        }
        x.answer(1, 1);
        x.answer(3, 10);
        Check.due("14 a tick has no value", NONE, x.box(1, 5));
        Check.due("14 a tick's answer", 1, x.box(1, 4));
        Check.due("14 a skip has no value", NONE, x.box(3, 5));
        Check.due("14 now open", 1, x.box(2, 6));
        Check.due("14 now wanted", 1, x.box(2, 7));
        Check.due("14 a total is open", 1, x.box(4, 6));
        Check.due("14 a total is not wanted", 0, x.box(4, 7));
        for (int box : new int[] {-1, 5, 16, LEAST_INT, MOST_INT}) {
            Check.refused(x, "14 box " + box, NO_SUCH, () -> x.box(box, 8));
        }
        for (int what : new int[] {-1, 8, LEAST_INT, MOST_INT}) {
            Check.refused(x, "14 what " + what, UNFIT, () -> x.box(0, what));
        }
    }

    private static void boxValues() {
        TickForms x = new TickForms();
        x.tick(0, 1);
        x.comb(0, 5);
        x.comb(1, 5);
        x.total(1, 6);
        x.total(0, 14);
        x.answer(1, 100);
        x.answer(2, 20);
        Check.due("14 a closed comb's own value", 20, x.box(2, 5));
        Check.due("14 a closed comb does not count", 100, x.box(3, 5));
        Check.due("14 nor a closed total", 100, x.box(4, 5));
        x.answer(0, 1);
        Check.due("14 an open comb counts", 120, x.box(3, 5));
        Check.due("14 an open total counts, its boxes twice", 240, x.box(4, 5));
        x.answer(1, 99999);
        x.answer(2, 99999);
        Check.due("14 sums", 399996, x.box(4, 5));
        x.total(0, 24);
        Check.due("14 sums of sums", 599994, x.box(5, 5));
        x.total(0, 56);
        x.total(0, 64);
        x.total(0, 32 + 16 + 8);
        Check.due("14 at most", 999999, x.box(6, 5));
        Check.due("14 carried on", 999999, x.box(7, 5));
        x.answer(1, NONE);
        x.answer(2, 0);
        Check.due("14 an empty comb is 0", 0, x.box(1, 5));
        Check.due("14 the sum of nothing", 0, x.box(6, 5));
        x.answer(1, 3);
        Check.due("14 a small sum", 3 * (1 + 2 + 3), x.box(6, 5));
    }

    private static void partLooks() {
        TickForms x = new TickForms();
        x.tick(0, 2);
        x.tick(1, 2);
        x.skip(0, 2, 5);
        x.comb(2, 1);
        x.comb(2, 1);
        x.total(2, 8);
        long[][] due = {
            {1, 2, 2, 0, 0, 0}, {1, 1, 1, 0, 0, 0}, {0, 3, 0, 2, 1, 0}, {1, 0, 0, 0, 0, 0},
            {1, 0, 0, 0, 0, 0}};
        for (int p = 0; p < 5; p++) {
            for (int what = 0; what < 6; what++) {
                Check.due("15 part " + p + " " + what, due[p][what], x.part(p, what));
            }
        }
        x.answer(0, 1);
        Check.due("15 ticked", 1, x.part(2, 0));
        Check.due("15 wanted", 2, x.part(2, 2));
        x.answer(2, 4);
        Check.due("15 below the limit", 0, x.part(2, 5));
        x.answer(2, 5);
        Check.due("15 at the limit", 1, x.part(2, 5));
        Check.due("15 skipped", 0, x.part(2, 0));
        Check.due("15 nothing is wanted there", 0, x.part(2, 2));
        for (int part : new int[] {-1, 5, LEAST_INT, MOST_INT}) {
            Check.refused(x, "15 part " + part, NO_SUCH, () -> x.part(part, 6));
        }
        for (int what : new int[] {-1, 6, LEAST_INT, MOST_INT}) {
            Check.refused(x, "15 what " + what, UNFIT, () -> x.part(0, what));
        }
    }

    private static void openParts() {
        TickForms x = new TickForms();
        x.tick(0, 1);
        x.tick(1, 2);
        x.tick(2, 3);
        x.skip(1, 4, 0);
        Check.due("15 ticks that are empty", 17, x.count(6));
        x.answer(1, 1);
        x.answer(2, 1);
        x.answer(3, 0);
        Check.due("15 ticks and skips in closed parts", 17, x.count(6));
        Check.due("15 a skip in a closed part", 0, x.part(4, 5));
        x.answer(0, 1);
        Check.due("15 parts open one another", 15, x.count(6));
        Check.due("15 the limit 0 closes by 0", 1, x.part(4, 5));
        x.answer(3, NONE);
        Check.due("15 an empty skip closes nothing", 31, x.count(6));
        Check.due("15 an empty skip closes nothing", 0, x.part(4, 5));
        x.skip(0, 2, 99);
        x.answer(4, 98);
        Check.due("15 below the limit", 31, x.count(6));
        x.answer(4, 99);
        Check.due("15 closed over the ticks, and what hangs on it", 19, x.count(6));
        x.answer(0, 0);
        Check.due("15 closed by a tick's 0", 17, x.count(6));
        Check.due("15 by a skip, though not ticked", 1, x.part(2, 5));
        x.tick(0, NONE);
        x.answer(5, 1);
        Check.due("15 a tick for none opens none", 17, x.count(6));
        x.tick(0, 3);
        x.answer(6, 1);
        Check.due("15 one of two ticks is enough", 25, x.count(6));
    }

    private static void counts() {
        TickForms x = new TickForms();
        x.total(0, 0);
        x.tick(0, 3);
        x.comb(3, 2);
        x.comb(1, 2);
        x.answer(2, 7);
        long[] due = {4, 3, 2, 1, 0, 4, 23, 1, 5};
        for (int what = 0; what < due.length; what++) {
            Check.due("16 count " + what, due[what], x.count(what));
        }
        x.answer(1, 1);
        Check.due("16 open boxes", 4, x.count(1));
        Check.due("16 the first that is wanted", 3, x.count(3));
        x.answer(3, 0);
        long[] whole = {4, 4, 0, NONE, 1, 5, 31, 3, 6};
        for (int what = 0; what < whole.length; what++) {
            Check.due("16 whole: count " + what, whole[what], x.count(what));
        }
        for (int what : new int[] {-1, 9, LEAST_INT, MOST_INT}) {
            Check.refused(x, "16 what " + what, UNFIT, () -> x.count(what));
        }
    }

    private static void ifAnswered() {
        TickForms x = new TickForms();
        x.tick(0, 1);
        x.comb(1, 3);
        Check.due("17 no totals", NONE, x.ifAnswered(0, 1, 2));
        x.total(0, 2);
        x.total(1, 6);
        x.skip(0, 2, 5);
        x.answer(1, 30);
        long before = x.digest();
        Check.due("17 wanted", 1, x.ifAnswered(0, 0, 0));
        Check.due("17 wanted", 2, x.ifAnswered(0, NONE, 0));
        Check.due("17 parts", 29, x.ifAnswered(0, 0, 1));
        Check.due("17 parts", 31, x.ifAnswered(0, 1, 1));
        Check.due("17 parts", 25, x.ifAnswered(4, 5, 1));
        Check.due("17 parts", 29, x.ifAnswered(4, 4, 1));
        Check.due("17 the last total", 0, x.ifAnswered(0, 0, 2));
        Check.due("17 the last total", 60, x.ifAnswered(0, 1, 2));
        Check.due("17 a closed comb", 0, x.ifAnswered(1, 999, 2));
        Check.due("17 a total", 2, x.ifAnswered(2, NONE, 0));
        Check.due("17 nothing is changed", before, x.digest());
        x.answer(0, 1);
        Check.due("17 an open comb", 1998, x.ifAnswered(1, 999, 2));
        Check.due("17 emptied", 2, x.ifAnswered(1, NONE, 0));
        Check.due("17 emptied", 0, x.ifAnswered(1, NONE, 2));
        for (int box : new int[] {-1, 5, 16, LEAST_INT, MOST_INT}) {
            Check.refused(x, "17 box " + box, NO_SUCH, () -> x.ifAnswered(box, -2, 3));
        }
        int[][] unfit = {{0, 2, 0}, {0, -2, 0}, {1, 1000, 1}, {2, 0, 2}, {4, 100, 0}, {0, 0, 3},
            {0, 0, -1}, {0, NONE, LEAST_INT}, {0, MOST_INT, 0}};
        for (int[] c : unfit) {
            Check.refused(x, "17 unfit", UNFIT, () -> x.ifAnswered(c[0], c[1], c[2]));
        }
    }

    private static void ifAnsweredLastTotal() {
        TickForms x = new TickForms();
        x.comb(0, 2);
        Check.due("17 no total, but a comb", NONE, x.ifAnswered(0, 7, 2));
        TickForms y = new TickForms();
        y.total(0, 0);
        y.tick(0, 1);
        Check.due("17 a total alone", 0, y.ifAnswered(0, NONE, 2));
        Check.due("17 a total before", 0, y.ifAnswered(1, 1, 2));
        TickForms z = new TickForms();
        z.comb(0, 2);
        z.total(0, 1);
        z.total(0, 3);
        Check.due("17 the last of all boxes", 14, z.ifAnswered(0, 7, 2));
    }

    private static void shortest() {
        TickForms x = new TickForms();
        x.comb(0, 1);
        x.total(0, 1);
        Check.due("18 one comb", 1, x.shortest());
        x.tick(0, 1);
        x.comb(1, 1);
        x.comb(1, 1);
        Check.due("18 a part is left closed", 2, x.shortest());
        x.answer(2, 1);
        Check.due("18 an answer stays as it is", 3, x.shortest());
        x.answer(2, 0);
        Check.due("18 an answer stays as it is", 1, x.shortest());
        x.answer(0, 0);
        Check.due("18 whole", 0, x.shortest());
        dropOfEmptySkip();
        TickForms y = new TickForms();
        y.comb(3, 1);
        y.comb(3, 1);
        y.tick(2, 3);
        Check.due("18 a part that ticks can open", 1, y.shortest());
        y.tick(0, 2);
        Check.due("18 ticks behind ticks", 1, y.shortest());
        y.answer(2, 1);
        Check.due("18 a tick in a part that stays closed", 1, y.shortest());
        y.answer(3, 1);
        Check.due("18 a tick in an open part", 2, y.shortest());
    }

    private static void dropOfEmptySkip() {
        TickForms x = new TickForms();
        x.comb(1, 1);
        x.comb(1, 1);
        x.skip(0, 1, 5);
        x.drop();
        Check.due("18 a dropped skip closes nothing", 2, x.shortest());
        x.skip(0, 1, 5);
        x.answer(2, 7);
        x.drop();
        Check.due("18 nor does its answer", 2, x.shortest());
        Check.due("15 nor does its answer", 31, x.count(6));
    }

    private static void shortestOfSkips() {
        TickForms x = new TickForms();
        x.comb(1, 1);
        x.comb(1, 1);
        x.skip(0, 1, 99);
        Check.due("18 a skip closes", 1, x.shortest());
        x.answer(2, 98);
        Check.due("18 a skip that does not", 2, x.shortest());
        TickForms y = new TickForms();
        y.skip(0, 1, 0);
        y.skip(1, 2, 0);
        y.comb(2, 1);
        Check.due("18 the limit 0 closes always", 2, y.shortest());
        y.comb(2, 1);
        y.comb(2, 1);
        Check.due("18 so what it closes can't close", 4, y.shortest());
        TickForms z = new TickForms();
        z.skip(0, 1, 1);
        z.skip(1, 2, 0);
        z.comb(2, 1);
        z.comb(2, 1);
        Check.due("18 a part is opened to close another", 2, z.shortest());
        z.answer(0, 1);
        Check.due("18 a part that an answer closes", 2, z.shortest());
        z.answer(0, 0);
        Check.due("18 a part that an answer leaves open", 1, z.shortest());
        TickForms w = new TickForms();
        w.tick(0, 1);
        w.skip(1, 2, 5);
        for (int i = 0; i < 3; i++) {
            w.comb(2, 1);
        }
        Check.due("18 ticked to skip", 2, w.shortest());
        w.skip(0, 1, 0);
        Check.due("18 ticked in vain", 5, w.shortest());
    }

    private static void mostCarried() {
        TickForms x = new TickForms();
        x.tick(0, 1);
        x.comb(0, 1);
        x.comb(1, 1);
        x.total(0, 0);
        Check.due("19 none is carried", NONE, x.mostCarried());
        x.total(0, 4);
        Check.due("19 the one", 2, x.mostCarried());
        x.total(0, 2);
        Check.due("19 of several the lowest", 1, x.mostCarried());
        x.total(0, 16);
        Check.due("19 through a total", 2, x.mostCarried());
        x.total(0, 8);
        x.total(0, 128);
        x.total(0, 256);
        Check.due("19 a total itself", 3, x.mostCarried());
        x.total(0, 64 + 16 + 4);
        Check.due("19 on two ways it counts once", 2, x.mostCarried());
        x.drop();
        Check.due("19 dropped", 3, x.mostCarried());
        TickForms y = new TickForms();
        y.comb(4, 1);
        y.total(4, 1);
        Check.due("19 the box 0", 0, y.mostCarried());
    }

    private static void filled() {
        TickForms x = new TickForms();
        x.total(0, 0);
        Check.dueShare("20 without any", 1.0, x.filled());
        x.tick(0, 1);
        x.comb(1, 1);
        Check.dueShare("20 none", 0.0, x.filled());
        x.answer(2, 1);
        Check.dueShare("20 a closed one does not count", 0.0, x.filled());
        x.comb(0, 1);
        x.comb(0, 1);
        x.answer(3, 0);
        Check.dueShare("20 a third", 1.0 / 3.0, x.filled());
        x.answer(1, 1);
        Check.dueShare("20 three of four", 0.75, x.filled());
        x.answer(4, 1);
        Check.dueShare("20 all", 1.0, x.filled());
        Check.due("16 each open box", 5, x.count(1));
        x.total(0, 0);
        x.skip(0, 2, 0);
        x.total(1, 0);
        Check.dueShare("20 four of five", 0.8, x.filled());
    }

    private static void digest() {
        Check.due("21 new", Forms.hashOf(new TickForms(), ""), new TickForms().digest());
        for (int all = 1; all <= 16; all++) {
            TickForms x = new TickForms();
            for (int b = 0; b < all; b++) {
                x.comb(0, 1);
            }
            for (int b = 0; b <= all; b++) {
                Check.due("21 " + b + " of " + all, Forms.hashOf(x, ""), x.digest());
                if (b < all) {
                    x.answer(b, b % 10);
                }
            }
        }
    }

    private static void digestOfState() {
        TickForms x = Forms.typed("1=~");
        x.tick(0, 1);
        x.comb(1, 5);
        x.total(2, 2);
        x.skip(1, 3, 9);
        x.answer(1, 99999);
        Check.due("21 a form", Forms.hashOf(x, "1=~"), x.digest());
        x.answer(0, 1);
        Check.due("21 opened", Forms.hashOf(x, "1=~"), x.digest());
        x.clearBuffer();
        Check.due("21 without the text", Forms.hashOf(x, ""), x.digest());
        x.undo();
        Check.due("21 undone", Forms.hashOf(x, ""), x.digest());
        long before = x.digest();
        Check.due("21 the same again", before, x.digest());
    }
}
