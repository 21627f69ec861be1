/** The sentences ahead of the promises: what it is, and the terms. */
final class TermsEdges {
    private static final int NONE = Forms.NONE;

    private TermsEdges() {
    }

    static void run() {
        whatItIs();
        partsAndBoxes();
        whichPartsAreOpen();
        inputText();
        undo();
        exceptions();
    }

    private static void whatItIs() {
        Doc.section("What it is")
            .passes("Form designer of boxes with combs, skips, totals carried and ticks that open "
                + "parts: boxes of kinds in parts of a form, combs of teeth for digits, ticks that "
                + "open parts, skips that close parts by an answer, totals that are carried from "
                + "boxes to boxes, answers that fit or do not, boxes that are open and still empty, "
                + "parts that open one another, what a form still wants, when it is whole, what a "
                + "tick or an answer would open, forms as texts with errors by place, and undo.")
            .says("An object is used for at most 512 calls after it has been made; what later calls "
                + "answer is free.", TermsEdges::callsToTheLast)
            .end();
    }

    private static void callsToTheLast() {
        TickForms few = Forms.full();
        TickForms many = Forms.full();
        int calls = 12 + 4 + 60;
        for (int i = 0; i < 6; i++) {
            few.answer(i, i);
        }
        while (calls < 512 - 7) {
            many.answer(calls % 6, NONE);
            calls++;
        }
        for (int i = 0; i < 6; i++) {
            many.answer(i, i);
        }
        Check.due("the 512th call", few.digest(), many.digest());
        TickForms looked = new TickForms();
        for (int i = 0; i < 510; i++) {
            looked.digest();
        }
        Check.due("the 511th call", 0, looked.comb(0, 1));
        Check.due("the 512th call", 0, looked.undo());
    }

    // ---- parts, boxes

    private static void partsAndBoxes() {
        Doc.section("Terms")
            .passes("All numbers are integers, but for a share.")
            .passes("Parts, boxes")
            .says("A form has 5 parts, numbered from 0; the part 0 is always open.",
                TermsEdges::fiveParts)
            .says("There are at most 16 boxes, numbered from 0 in the order in which they were "
                + "added; each is in a part, and has a kind:", TermsEdges::sixteenBoxes)
            .says("0, a comb: it has 1 to 5 teeth; its answer is a number with at most so many "
                + "digits, 0 or more.", TermsEdges::combs)
            .says("1, a tick: its answer is 0 or 1; it can open a part, 1 to 4, or none.",
                TermsEdges::ticks)
            .says("2, a skip: its answer is a number, 0 to 99; it can close a part, 1 to 4, if its "
                + "answer is at least its limit, 0 to 99.", TermsEdges::skips)
            .says("3, a total: it has no answer of its own;", TermsEdges::totalsHaveNoAnswer)
            .says("it has a mask of boxes with lower numbers that are combs or totals:",
                TermsEdges::totalsOfLowerBoxes)
            .says("its value, also if it is not open itself, is the sum of the values of these that "
                + "are open, but at most 999999.", TermsEdges::valuesOfTotals)
            .says("The value of a comb is its answer, 0 if it is empty.", TermsEdges::valuesOfCombs)
            .says("A tick opens only a part with a greater number than its own part, and a skip "
                + "closes only such a part.", TermsEdges::onlyGreaterParts)
            .end();
    }

    /** All parts that can be closed are closed, by skips or by ticks with the answer 0. */
    private static TickForms closed(boolean bySkips) {
        TickForms x = new TickForms();
        for (int p = 1; p < 5; p++) {
            x.answer(bySkips ? x.skip(0, p, 0) : x.tick(0, p), 0);
        }
        return x;
    }

    private static void fiveParts() {
        TickForms x = new TickForms();
        Check.due("parts", 5, x.count(5));
        for (int p = 0; p < 5; p++) {
            Check.due("the box of part " + p, p, x.comb(p, 1));
            Check.due("in part " + p, 1, x.part(p, 1));
        }
        for (int p : new int[] {-1, 5}) {
            Check.refused(x, "part " + p, Forms.NO_SUCH, () -> x.part(p, 0));
        }
        for (boolean bySkips : new boolean[] {true, false}) {
            TickForms y = closed(bySkips);
            Check.due("only one is open", 1, y.count(6));
            Check.due("it is the part 0", 1, y.part(0, 0));
        }
    }

    private static void sixteenBoxes() {
        TickForms x = new TickForms();
        int[] kinds = {0, 1, 2, 3};
        for (int b = 0; b < 16; b++) {
            int kind = kinds[b % 4];
            int part = b / 4;
            Check.due("its number", b, kind == 0 ? x.comb(part, 1) : kind == 1 ? x.tick(part, NONE)
                : kind == 2 ? x.skip(part, 4, 0) : x.total(part, 1));
        }
        for (int b = 0; b < 16; b++) {
            Check.due("kind of " + b, kinds[b % 4], x.box(b, 0));
            Check.due("part of " + b, b / 4, x.box(b, 1));
        }
        Check.refused(x, "a 17th comb", Forms.NOT_NOW, () -> x.comb(0, 1));
        Check.refused(x, "a 17th tick", Forms.NOT_NOW, () -> x.tick(0, 1));
        Check.refused(x, "a 17th skip", Forms.NOT_NOW, () -> x.skip(0, 1, 0));
        Check.refused(x, "a 17th total", Forms.NOT_NOW, () -> x.total(0, 1));
        Check.due("boxes", 16, x.count(0));
    }

    private static void combs() {
        TickForms x = new TickForms();
        Check.refused(x, "no tooth", Forms.UNFIT, () -> x.comb(0, 0));
        Check.refused(x, "six teeth", Forms.UNFIT, () -> x.comb(0, 6));
        int more = 1;
        for (int teeth = 1; teeth <= 5; teeth++) {
            more = more * 10;
            int tooMuch = more;
            int box = x.comb(0, teeth);
            Check.due("so many digits", 0, x.answer(box, more - 1));
            Check.due("it is kept", more - 1, x.box(box, 4));
            Check.refused(x, "a digit more", Forms.UNFIT, () -> x.answer(box, tooMuch));
            Check.due("fewer digits", 0, x.answer(box, more / 10));
            Check.due("0", 0, x.answer(box, 0));
            Check.due("0 is an answer", 0, x.box(box, 4));
            Check.refused(x, "below", Forms.UNFIT, () -> x.answer(box, -2));
        }
    }

    private static void ticks() {
        for (int opens = 1; opens <= 4; opens++) {
            TickForms x = new TickForms();
            x.tick(0, opens);
            Check.due("opens", opens, x.box(0, 2));
            x.answer(0, 0);
            Check.due("its part is closed by 0", 31 - (1 << opens), x.count(6));
            x.answer(0, 1);
            Check.due("its part is open by 1", 31, x.count(6));
            Check.refused(x, "2", Forms.UNFIT, () -> x.answer(0, 2));
            Check.refused(x, "-2", Forms.UNFIT, () -> x.answer(0, -2));
        }
        TickForms x = new TickForms();
        x.tick(0, NONE);
        for (int value = 0; value <= 1; value++) {
            x.answer(0, value);
            Check.due("none is opened or closed", 31, x.count(6));
        }
        Check.refused(x, "the part 0", Forms.UNFIT, () -> x.tick(0, 0));
        Check.refused(x, "a part 5", Forms.UNFIT, () -> x.tick(0, 5));
    }

    private static void skips() {
        for (int closes = 1; closes <= 4; closes++) {
            for (int limit : new int[] {0, 1, 50, 98, 99}) {
                TickForms x = new TickForms();
                x.skip(0, closes, limit);
                Check.due("limit", limit, x.box(0, 3));
                for (int value : new int[] {0, limit - 1, limit, limit + 1, 99}) {
                    if (value >= 0 && value <= 99) {
                        x.answer(0, value);
                        Check.due("the limit " + limit + " and the answer " + value,
                            value >= limit ? 31 - (1 << closes) : 31, x.count(6));
                    }
                }
                Check.refused(x, "100", Forms.UNFIT, () -> x.answer(0, 100));
                Check.refused(x, "-2", Forms.UNFIT, () -> x.answer(0, -2));
            }
        }
        TickForms x = new TickForms();
        Check.refused(x, "the part 0", Forms.UNFIT, () -> x.skip(0, 0, 1));
        Check.refused(x, "a part 5", Forms.UNFIT, () -> x.skip(0, 5, 1));
        Check.refused(x, "no part", Forms.UNFIT, () -> x.skip(0, NONE, 1));
        Check.refused(x, "a limit of 100", Forms.UNFIT, () -> x.skip(0, 1, 100));
        Check.refused(x, "a limit of -1", Forms.UNFIT, () -> x.skip(0, 1, -1));
    }

    private static void totalsHaveNoAnswer() {
        TickForms x = Forms.combs(1);
        x.total(0, 1);
        x.answer(0, 7);
        for (int value : new int[] {0, 1, 7, 99, -2}) {
            Check.refused(x, "answer " + value, Forms.UNFIT, () -> x.answer(1, value));
            Check.refused(x, "if answered", Forms.UNFIT, () -> x.ifAnswered(1, value, 0));
        }
        Check.due("its answer", NONE, x.box(1, 4));
        Check.due("it wants none", 0, x.box(1, 7));
        Check.due("nothing is wanted", 0, x.count(2));
        Check.due("one has an answer", 1, x.clear());
    }

    private static void totalsOfLowerBoxes() {
        TickForms x = Forms.oneOfEach();
        Check.refused(x, "its own number", Forms.UNFIT, () -> x.total(0, 32));
        Check.refused(x, "a greater number", Forms.UNFIT, () -> x.total(0, 64));
        Check.refused(x, "a tick", Forms.UNFIT, () -> x.total(0, 2));
        Check.refused(x, "a skip", Forms.UNFIT, () -> x.total(0, 4));
        Check.due("combs and totals, the next lower too", 5, x.total(0, 1 + 8 + 16));
        Check.due("the mask", 25, x.box(5, 2));
        Check.due("none at all", 6, x.total(0, 0));
        Check.due("the mask", 0, x.box(6, 2));
    }

    private static void valuesOfTotals() {
        TickForms x = new TickForms();
        for (int b = 0; b < 11; b++) {
            x.comb(0, 5);
            x.answer(b, b < 10 ? 99999 : 8);
        }
        x.total(0, 2047);
        x.total(0, 1 << 11);
        Check.due("below the most", 999998, x.box(11, 5));
        x.answer(10, 9);
        Check.due("the most", 999999, x.box(11, 5));
        x.answer(10, 10);
        Check.due("over the most", 999999, x.box(11, 5));
        Check.due("carried on", 999999, x.box(12, 5));
        x.total(0, 4096 + 2048 + 2047);
        Check.due("of three of the most", 999999, x.box(13, 5));
        TickForms y = new TickForms();
        y.comb(0, 1);
        y.comb(1, 1);
        y.total(1, 3);
        y.total(0, 7);
        y.total(0, 0);
        y.answer(0, 2);
        y.answer(1, 3);
        Check.due("both, and a total of them", 10, y.box(3, 5));
        Check.due("of none", 0, y.box(4, 5));
        y.tick(0, 1);
        Check.due("not open itself, only the open one", 2, y.box(2, 5));
        Check.due("without the closed comb and the closed total", 2, y.box(3, 5));
    }

    private static void valuesOfCombs() {
        TickForms x = new TickForms();
        x.comb(0, 5);
        x.total(0, 1);
        Check.due("empty", 0, x.box(0, 5));
        Check.due("empty, as an answer", NONE, x.box(0, 4));
        Check.due("empty, in a total", 0, x.box(1, 5));
        for (int value : new int[] {1, 99999, 0}) {
            x.answer(0, value);
            Check.due("the answer", value, x.box(0, 5));
            Check.due("in a total", value, x.box(1, 5));
        }
        x.answer(0, 5);
        x.answer(0, NONE);
        Check.due("emptied", 0, x.box(0, 5));
        Check.due("emptied, in a total", 0, x.box(1, 5));
    }

    private static void onlyGreaterParts() {
        for (int part = 0; part < 5; part++) {
            for (int to = 0; to < 5; to++) {
                int from = part;
                int at = to;
                TickForms x = new TickForms();
                String tick = to > part ? "0" : Forms.UNFIT.getName();
                Check.same("tick " + part + " " + to, tick, Check.outcome(() -> x.tick(from, at)));
                TickForms y = new TickForms();
                String skip = part == 4 ? Forms.NO_SUCH.getName() : tick;
                Check.same("skip " + part + " " + to, skip, Check.outcome(() -> y.skip(from, at, 1)));
            }
        }
    }

    // ---- which parts are open

    private static void whichPartsAreOpen() {
        Doc.section("Which parts are open")
            .says("The part 0 is open.", TermsEdges::partZeroIsOpen)
            .says("From the part 1 on, a part is open, if some tick in an open part that can open "
                + "it has the answer 1,", TermsEdges::ticked)
            .says("or there is no tick at all, in an open part or not, that can open it;",
                TermsEdges::withoutTicks)
            .says("but not if some skip in an open part that can close it has an answer that is at "
                + "least its limit.", TermsEdges::skipped)
            .says("A box is open, if its part is.", TermsEdges::openBoxes)
            .says("A box that can be answered wants an answer, if it is open and empty.",
                TermsEdges::wantingBoxes)
            .says("A form is whole, if no box wants an answer.", TermsEdges::wholeForms)
            .says("Answers of boxes that are not open stay, and do not count.",
                TermsEdges::answersOfClosedBoxes)
            .end();
    }

    private static void partZeroIsOpen() {
        Check.due("without boxes", 1, new TickForms().part(0, 0));
        Check.due("closed by none", 1, closed(true).part(0, 0));
        Check.due("opened by none", 1, closed(false).part(0, 0));
        TickForms x = closed(true);
        x.comb(0, 1);
        Check.due("its box is open", 1, x.box(4, 6));
    }

    private static void ticked() {
        TickForms x = new TickForms();
        x.tick(0, 1);
        Check.due("an empty tick", 0, x.part(1, 0));
        x.answer(0, 0);
        Check.due("the answer 0", 0, x.part(1, 0));
        x.answer(0, 1);
        Check.due("the answer 1", 1, x.part(1, 0));
        x.tick(0, 1);
        Check.due("a second tick is empty", 1, x.part(1, 0));
        x.answer(1, 0);
        Check.due("a second tick's answer is 0", 1, x.part(1, 0));
        x.answer(0, 0);
        x.answer(1, 1);
        Check.due("only the second one's is 1", 1, x.part(1, 0));
        TickForms y = new TickForms();
        y.tick(0, 1);
        y.tick(1, 2);
        y.answer(1, 1);
        Check.due("a tick in a closed part", 0, y.part(2, 0));
        y.answer(0, 1);
        Check.due("a tick in an open part", 1, y.part(2, 0));
        TickForms z = new TickForms();
        z.tick(3, 4);
        z.tick(2, 3);
        z.tick(1, 2);
        z.tick(0, 1);
        for (int b = 0; b < 3; b++) {
            z.answer(b, 1);
        }
        Check.due("the chain hangs on its first", 1, z.count(6));
        z.answer(3, 1);
        Check.due("the chain opens at once", 31, z.count(6));
    }

    private static void withoutTicks() {
        TickForms x = new TickForms();
        x.tick(0, NONE);
        x.tick(0, 2);
        for (int p = 1; p < 5; p++) {
            Check.due("part " + p, p == 2 ? 0 : 1, x.part(p, 0));
        }
        TickForms y = new TickForms();
        y.tick(0, 1);
        Check.due("none for the part 2", 1, y.part(2, 0));
        y.tick(1, 2);
        Check.due("one in a part that is not open", 0, y.part(2, 0));
        y.drop();
        Check.due("it is gone", 1, y.part(2, 0));
        y.drop();
        Check.due("all are gone", 31, y.count(6));
    }

    private static void skipped() {
        TickForms x = new TickForms();
        x.skip(0, 1, 5);
        Check.due("an empty skip", 1, x.part(1, 0));
        x.answer(0, 4);
        Check.due("below the limit", 1, x.part(1, 0));
        x.answer(0, 5);
        Check.due("at the limit", 0, x.part(1, 0));
        x.answer(0, 6);
        Check.due("over the limit", 0, x.part(1, 0));
        x.answer(0, 0);
        x.skip(0, 1, 0);
        Check.due("an empty skip with the limit 0", 1, x.part(1, 0));
        x.answer(1, 0);
        Check.due("one of two skips", 0, x.part(1, 0));
        x.tick(0, 1);
        x.answer(2, 1);
        Check.due("over a tick", 0, x.part(1, 0));
        x.answer(1, NONE);
        Check.due("the tick alone", 1, x.part(1, 0));
        TickForms y = new TickForms();
        y.tick(0, 1);
        y.skip(1, 2, 5);
        y.answer(1, 5);
        Check.due("a skip in a closed part", 1, y.part(2, 0));
        y.answer(0, 1);
        Check.due("a skip in an open part", 0, y.part(2, 0));
        TickForms z = new TickForms();
        z.skip(1, 2, 0);
        z.skip(0, 1, 0);
        z.answer(0, 0);
        z.answer(1, 0);
        Check.due("a closed skip closes nothing", 31 - 2, z.count(6));
    }

    private static void openBoxes() {
        for (int kind = 0; kind < 4; kind++) {
            TickForms x = new TickForms();
            x.tick(0, 1);
            int box = kind == 0 ? x.comb(1, 1) : kind == 1 ? x.tick(1, NONE)
                : kind == 2 ? x.skip(1, 4, 0) : x.total(1, 0);
            Check.due("closed, kind " + kind, 0, x.box(box, 6));
            x.answer(0, 1);
            Check.due("open, kind " + kind, 1, x.box(box, 6));
            Check.due("the tick itself", 1, x.box(0, 6));
        }
    }

    private static void wantingBoxes() {
        for (int kind = 0; kind < 4; kind++) {
            TickForms x = new TickForms();
            x.tick(0, 1);
            int box = kind == 0 ? x.comb(1, 1) : kind == 1 ? x.tick(1, NONE)
                : kind == 2 ? x.skip(1, 4, 0) : x.total(1, 0);
            Check.due("closed and empty, kind " + kind, 0, x.box(box, 7));
            x.answer(0, 1);
            Check.due("open and empty, kind " + kind, kind == 3 ? 0 : 1, x.box(box, 7));
            if (kind < 3) {
                x.answer(box, 0);
                Check.due("open, answered by 0, kind " + kind, 0, x.box(box, 7));
                x.answer(0, 0);
                Check.due("closed and answered, kind " + kind, 0, x.box(box, 7));
            }
        }
    }

    private static void wholeForms() {
        Check.due("without boxes", 1, new TickForms().count(4));
        TickForms x = new TickForms();
        x.total(0, 0);
        Check.due("a total alone", 1, x.count(4));
        x.tick(0, 1);
        Check.due("a tick is wanted", 0, x.count(4));
        x.comb(1, 1);
        x.answer(1, 0);
        Check.due("a closed comb is empty", 1, x.count(4));
        x.answer(1, 1);
        Check.due("an open comb is empty", 0, x.count(4));
        x.answer(2, 0);
        Check.due("all have an answer", 1, x.count(4));
        TickForms y = Forms.combs(16);
        for (int b = 0; b < 15; b++) {
            y.answer(b, 0);
        }
        Check.due("one of sixteen is wanted", 0, y.count(4));
        y.answer(15, 0);
        Check.due("none of sixteen", 1, y.count(4));
    }

    private static void answersOfClosedBoxes() {
        TickForms x = new TickForms();
        x.tick(0, 1);
        x.comb(1, 2);
        x.tick(1, 2);
        x.skip(1, 3, 4);
        x.total(0, 2);
        x.answer(0, 1);
        x.answer(1, 42);
        x.answer(2, 1);
        x.answer(3, 4);
        Check.due("open: the parts", 31 - 8, x.count(6));
        Check.due("open: the total", 42, x.box(4, 5));
        Check.dueShare("open: the share", 1.0, x.filled());
        x.answer(0, NONE);
        for (int[] answer : new int[][] {{1, 42}, {2, 1}, {3, 4}}) {
            Check.due("the answer stays", answer[1], x.box(answer[0], 4));
        }
        Check.due("closed: the tick opens nothing, the skip closes nothing", 31 - 2 - 4, x.count(6));
        Check.due("closed: the comb is not in the total", 0, x.box(4, 5));
        Check.dueShare("closed: they are not in the share", 0.0, x.filled());
        x.answer(0, 1);
        Check.due("open again: the parts", 31 - 8, x.count(6));
        Check.due("open again: the total", 42, x.box(4, 5));
        Check.due("open again: nothing is wanted", 0, x.count(2));
    }

    // ---- input text

    private static void inputText() {
        Doc.section("Input text")
            .says("The buffer has at most 60 characters.", TermsEdges::sixtySigns)
            .says("Answers as a text are one or more parts with \",\" between them,",
                TermsEdges::partsOfText)
            .says("each the number of a box, 0 to 15, and \"=\"", TermsEdges::numbersOfText)
            .says("and an answer, 0 to 99999, or \"-\" (it is emptied)", TermsEdges::answersOfText)
            .says("numbers without a leading zero.", TermsEdges::leadingZeros)
            .says("The buffer is read from left to right;", () -> {
                Check.due("the left one of two", 1, Forms.typed("1x=x").firstError());
                Check.due("what comes later heals nothing", 0, Forms.typed("=1=1").firstError());
            })
            .says("a character is a syntax error if no answers as a text, of any length, begin with "
                + "the characters before it and this character.", TermsEdges::allShortTexts)
            .end();
    }

    private static void sixtySigns() {
        TickForms x = new TickForms();
        for (int i = 1; i <= 60; i++) {
            Check.due("length", i, x.append('-'));
        }
        Check.refused(x, "a 61st", Forms.NOT_NOW, () -> x.append('-'));
        Check.due("length", 60, x.clearBuffer());
        Check.due("room again", 1, x.append('-'));
    }

    /** The text is complete: fill takes it, also if the form has no such box. */
    private static void takes(String text) {
        TickForms x = Forms.typed(text);
        Check.due("no error in " + text, text.length(), x.firstError());
        Check.due("fill takes " + text, 0, x.fill());
    }

    private static void refuses(String text, int error) {
        TickForms x = Forms.typed(text);
        Check.due("the error of " + text, error, x.firstError());
        Check.refused(x, "fill of " + text, Forms.UNFIT, x::fill);
    }

    private static void partsOfText() {
        takes("0=1");
        takes("0=1,1=1");
        takes("0=1,0=1,0=1,0=1,0=1,0=1,0=1,0=1,0=1,0=1,0=1,0=1,0=1,0=1,0=12");
        refuses("", 0);
        refuses(",", 0);
        refuses(",0=1", 0);
        refuses("0=1,", 4);
        refuses("0=1,,0=1", 4);
        refuses("0=1;0=1", 3);
        refuses("0=1,0=1,0=1,0=1,0=1,0=1,0=1,0=1,0=1,0=1,0=1,0=1,0=1,0=1,0=1,", 60);
    }

    private static void numbersOfText() {
        for (int box = 0; box <= 15; box++) {
            takes(box + "=1");
            takes("1=1," + box + "=1");
        }
        for (int box : new int[] {16, 19, 20, 99}) {
            refuses(box + "=1", 1);
            refuses("1=1," + box + "=1", 5);
        }
        refuses("100=1", 2);
        refuses("150=1", 2);
        refuses("-1=1", 0);
        refuses("=1", 0);
        refuses("1", 1);
        refuses("15", 2);
        refuses("1-", 1);
        refuses("1==1", 2);
        refuses("15:1", 2);
    }

    private static void answersOfText() {
        for (int value : new int[] {0, 1, 9, 10, 99, 100, 999, 1000, 9999, 10000, 99999}) {
            takes("1=" + value);
        }
        takes("1=-");
        takes("1=-,1=-");
        refuses("1=100000", 7);
        refuses("1=999990", 7);
        refuses("1=-1", 3);
        refuses("1=--", 3);
        refuses("1=1-", 3);
        refuses("1=", 2);
        refuses("1=,", 2);
        TickForms x = Forms.combs(1);
        x.answer(0, 7);
        Forms.type(x, "0=-");
        Check.due("given", 1, x.fill());
        Check.due("it is emptied", NONE, x.box(0, 4));
    }

    private static void leadingZeros() {
        takes("0=0");
        takes("10=10");
        refuses("00=1", 1);
        refuses("01=1", 1);
        refuses("015=1", 1);
        refuses("1=00", 3);
        refuses("1=01", 3);
        refuses("1=1,01=1", 5);
        refuses("1=1,1=00001", 7);
    }

    private static void dueAsTheModel(String text) {
        Model model = new Model();
        for (int i = 0; i < text.length(); i++) {
            model.append(text.charAt(i));
        }
        TickForms x = Forms.typed(text);
        Check.due("the error of " + text, model.firstError(), x.firstError());
        Check.same("fill of " + text, Check.outcome(model::fill), Check.outcome(x::fill));
    }

    /** Texts of up to five of these signs, and each sign behind each beginning. */
    private static void allShortTexts() {
        String signs = "0159=-,x";
        for (int number = 0; number < 1 << 15; number++) {
            StringBuilder text = new StringBuilder();
            for (int i = 0; i < 5; i++) {
                text.append(signs.charAt(number >> 3 * i & 7));
            }
            text.setLength(number % 6);
            dueAsTheModel(text.toString());
        }
        for (String start : new String[] {"", "0", "1", "2", "15", "1=", "1=0", "1=1", "1=12345",
            "1=-", "1=1,", "1=1,1"}) {
            for (int code = 33; code <= 126; code++) {
                dueAsTheModel(start + (char) code);
            }
        }
        fullTexts();
    }

    /** Sixty signs each: what only a longer text completes is no error, but fill refuses it. */
    private static void fullTexts() {
        String answers = "0=1,".repeat(13);
        for (String text : new String[] {"0=1," + answers + "0=12", "0=1," + answers + "10=-"}) {
            takes(text);
            refuses(text.substring(0, 59) + "x", 59);
        }
        for (String text : new String[] {"0=1," + answers + "0=1,", "0=12," + answers + "15=",
            "0=123," + answers + "1=", "0=1234," + answers + "1"}) {
            refuses(text, 60);
            refuses(text.substring(0, 59) + "x", 59);
        }
    }

    // ---- undo

    private static void undo() {
        Doc.section("Undo")
            .says("Each method that is marked \"undoable\" and does not throw an exception saves the "
                + "state from before it", TermsEdges::eachSaves)
            .says("(also if it changes nothing): ", TermsEdges::unchangedSaves)
            .says("all, but the buffer and the saved states.", TermsEdges::whatIsSaved)
            .says("At most 6 states are saved;", TermsEdges::sixStates)
            .says("the oldest one is dropped first.", TermsEdges::oldestFirst)
            .end();
    }

    private static void eachSaves() {
        Forms.Act refused = x -> x.comb(5, 1);
        Forms.Act[] undoable = {x -> x.comb(4, 5), x -> x.tick(0, 1), x -> x.skip(3, 4, 99),
            x -> x.total(0, 1), TickForms::drop, x -> x.answer(0, 9), TickForms::clear,
            TickForms::fill};
        for (Forms.Act act : undoable) {
            Forms.undoable(x -> {
                x.comb(0, 1);
                x.answer(0, 3);
                Forms.type(x, "0=4");
            }, act, refused);
        }
        Forms.Act[] others = {x -> x.append('0'), TickForms::clearBuffer, TickForms::firstError,
            x -> x.box(0, 4), x -> x.part(1, 0), x -> x.count(8), x -> x.ifAnswered(0, 1, 0),
            TickForms::shortest, TickForms::mostCarried, x -> (long) x.filled(), TickForms::digest};
        for (Forms.Act act : others) {
            Forms.savesNothing(act);
        }
    }

    private static void unchangedSaves() {
        TickForms x = new TickForms();
        Check.due("nothing is emptied", 0, x.clear());
        Check.due("saved", 1, x.count(8));
        Forms.type(x, "15=1");
        Check.due("nothing is given", 0, x.fill());
        Check.due("saved", 2, x.count(8));
        x.total(0, 0);
        Check.due("a total stays without an answer", 0, x.answer(0, NONE));
        Check.due("saved", 4, x.count(8));
        x.comb(0, 1);
        Check.due("the empty comb is emptied", 1, x.answer(1, NONE));
        Check.due("saved", 6, x.count(8));
        Check.due("undone", 5, x.undo());
        Check.due("the comb is there", 2, x.count(0));
        Check.due("undone", 4, x.undo());
        Check.due("the comb is not there", 1, x.count(0));
    }

    private static void whatIsSaved() {
        TickForms x = Forms.answered();
        String before = Forms.looks(x);
        x.clearBuffer();
        x.clear();
        x.drop();
        x.drop();
        x.skip(1, 3, 7);
        Forms.type(x, "x1");
        Check.due("undone", 5, x.undo());
        Check.due("undone", 4, x.undo());
        Check.due("undone", 3, x.undo());
        Check.due("undone", 2, x.undo());
        Check.same("boxes and answers are back", before, Forms.looks(x));
        Check.due("the buffer is as it was typed", 0, x.firstError());
        Check.due("the buffer is as it was typed", 2, x.clearBuffer());
        Check.due("the older states are there", 1, x.undo());
        Check.due("an answer before", NONE, x.box(4, 4));
    }

    private static void sixStates() {
        for (int calls = 0; calls <= 14; calls++) {
            TickForms x = Forms.combs(calls);
            Check.due(calls + " calls", Math.min(calls, 6), x.count(8));
            int undone = 0;
            while (x.count(8) > 0 && undone < 20) {
                x.undo();
                undone++;
            }
            Check.due("undone", Math.min(calls, 6), undone);
            Check.due("boxes", Math.max(calls - 6, 0), x.count(0));
            Check.refused(x, "no more", Forms.NOT_NOW, x::undo);
        }
    }

    /** The saved states go round and round, forth and back. */
    private static void oldestFirst() {
        TickForms x = new TickForms();
        x.comb(0, 5);
        int value = 0;
        for (int round = 0; round < 9; round++) {
            for (int i = 0; i < round; i++) {
                value++;
                x.answer(0, value);
            }
            for (int i = 0; i < round / 2; i++) {
                x.undo();
                value--;
                Check.due("one back", value == 0 ? NONE : value, x.box(0, 4));
            }
        }
        int saved = x.count(8);
        for (int i = 1; i <= saved; i++) {
            Check.due("left", saved - i, x.undo());
            Check.due("the latest are kept", value - i, x.box(0, 4));
        }
        TickForms y = Forms.combs(7);
        for (int i = 0; i < 6; i++) {
            y.undo();
        }
        Check.due("the form without boxes is lost", 1, y.count(0));
    }

    // ---- exceptions

    private static void exceptions() {
        Doc.section("Exceptions")
            .says("A call that throws an exception changes nothing.", TermsEdges::refusedCalls)
            .says("If several exceptions apply, the one that is named first in the throws clause is "
                + "thrown.", TermsEdges::severalExceptions)
            .says("The constants: `NONE = -1`: There is nothing to return.", () -> {
                Check.due("NONE", -1, TickForms.NONE);
                Check.due("nothing", -1, new TickForms().mostCarried());
            })
            .passes("Ahead of the calls `comb`, `tick`, `skip`, `total`, `drop` the interface says: "
                + "---- boxes.")
            .passes("Ahead of the calls `answer`, `clear` the interface says: ---- answers.")
            .passes("Ahead of the calls `append`, `clearBuffer`, `firstError`, `fill`, `undo` the "
                + "interface says: ---- texts.")
            .says("Ahead of the calls `box`, `part`, `count` the interface says: ---- looks; nothing "
                + "is changed.", TermsEdges::looksChangeNothing)
            .says("Ahead of the calls `ifAnswered`, `shortest`, `mostCarried`, `filled`, `digest` "
                + "the interface says: ---- what would be; nothing is changed.",
                TermsEdges::whatWouldBeChangesNothing)
            .end();
    }

    /** Each way to be refused, on a new form, one with answers, and one that is full. */
    private static void refusedCalls() {
        for (Forms.Way way : new Forms.Way[] {TickForms::new, Forms::answered, Forms::full}) {
            Forms.refused(way, "comb", Forms.NO_SUCH, x -> x.comb(5, 1));
            Forms.refused(way, "comb", Forms.UNFIT, x -> x.comb(0, 6));
            Forms.refused(way, "tick", Forms.NO_SUCH, x -> x.tick(-1, NONE));
            Forms.refused(way, "tick", Forms.UNFIT, x -> x.tick(1, 1));
            Forms.refused(way, "skip", Forms.NO_SUCH, x -> x.skip(4, 4, 0));
            Forms.refused(way, "skip", Forms.UNFIT, x -> x.skip(1, 1, 0));
            Forms.refused(way, "skip", Forms.UNFIT, x -> x.skip(0, 1, 100));
            Forms.refused(way, "total", Forms.NO_SUCH, x -> x.total(5, 0));
            Forms.refused(way, "total", Forms.UNFIT, x -> x.total(0, 65536));
            Forms.refused(way, "answer", Forms.NO_SUCH, x -> x.answer(16, 0));
            Forms.refused(way, "append", Forms.UNFIT, x -> x.append(127));
            Forms.refused(way, "box", Forms.NO_SUCH, x -> x.box(-1, 0));
            Forms.refused(way, "part", Forms.NO_SUCH, x -> x.part(5, 0));
            Forms.refused(way, "part", Forms.UNFIT, x -> x.part(0, 6));
            Forms.refused(way, "count", Forms.UNFIT, x -> x.count(9));
            Forms.refused(way, "ifAnswered", Forms.NO_SUCH, x -> x.ifAnswered(-1, 0, 0));
        }
        Forms.refused(TickForms::new, "drop of none", Forms.NOT_NOW, TickForms::drop);
        Forms.refused(TickForms::new, "undo of none", Forms.NOT_NOW, TickForms::undo);
        Forms.refused(TickForms::new, "fill of nothing", Forms.UNFIT, TickForms::fill);
        Forms.refused(() -> Forms.typed("0=1,"), "fill of a part", Forms.UNFIT, TickForms::fill);
        Forms.refused(Forms::full, "fill of digits", Forms.UNFIT, TickForms::fill);
        Forms.refused(Forms::full, "comb, full", Forms.NOT_NOW, x -> x.comb(0, 1));
        Forms.refused(Forms::full, "tick, full", Forms.NOT_NOW, x -> x.tick(0, 1));
        Forms.refused(Forms::full, "skip, full", Forms.NOT_NOW, x -> x.skip(0, 1, 0));
        Forms.refused(Forms::full, "total, full", Forms.NOT_NOW, x -> x.total(0, 1));
        Forms.refused(Forms::full, "append, full", Forms.NOT_NOW, x -> x.append('0'));
        Forms.refused(Forms::answered, "a total's mask", Forms.UNFIT, x -> x.total(0, 2));
        Forms.refused(Forms::answered, "a comb's answer", Forms.UNFIT, x -> x.answer(0, 100));
        Forms.refused(Forms::answered, "a total's answer", Forms.UNFIT, x -> x.answer(3, 0));
        Forms.refused(Forms::answered, "box", Forms.UNFIT, x -> x.box(0, 8));
        Forms.refused(Forms::answered, "ifAnswered", Forms.UNFIT, x -> x.ifAnswered(1, 2, 0));
        Forms.refused(Forms::answered, "ifAnswered", Forms.UNFIT, x -> x.ifAnswered(1, 1, 3));
    }

    private static void severalExceptions() {
        Forms.refused(Forms::full, "comb: all three", Forms.NO_SUCH, x -> x.comb(5, 0));
        Forms.refused(Forms::full, "comb: part, full", Forms.NO_SUCH, x -> x.comb(-1, 1));
        Forms.refused(Forms::full, "comb: teeth, full", Forms.UNFIT, x -> x.comb(0, 6));
        Forms.refused(TickForms::new, "comb: part, teeth", Forms.NO_SUCH, x -> x.comb(5, 6));
        Forms.refused(Forms::full, "tick: all three", Forms.NO_SUCH, x -> x.tick(5, 5));
        Forms.refused(Forms::full, "tick: part, full", Forms.NO_SUCH, x -> x.tick(-1, NONE));
        Forms.refused(Forms::full, "tick: opens, full", Forms.UNFIT, x -> x.tick(4, 4));
        Forms.refused(TickForms::new, "tick: part, opens", Forms.NO_SUCH, x -> x.tick(-1, -2));
        Forms.refused(Forms::full, "skip: all three", Forms.NO_SUCH, x -> x.skip(4, 5, 100));
        Forms.refused(Forms::full, "skip: part, full", Forms.NO_SUCH, x -> x.skip(-1, 1, 0));
        Forms.refused(Forms::full, "skip: closes, full", Forms.UNFIT, x -> x.skip(0, 0, 0));
        Forms.refused(Forms::full, "skip: limit, full", Forms.UNFIT, x -> x.skip(0, 1, -1));
        Forms.refused(TickForms::new, "skip: part, closes", Forms.NO_SUCH, x -> x.skip(4, 4, 0));
        Forms.refused(TickForms::new, "skip: part, limit", Forms.NO_SUCH, x -> x.skip(-1, 1, 100));
        Forms.refused(Forms::full, "total: all three", Forms.NO_SUCH, x -> x.total(5, -1));
        Forms.refused(Forms::full, "total: part, full", Forms.NO_SUCH, x -> x.total(-1, 1));
        Forms.refused(Forms::full, "total: range, full", Forms.UNFIT, x -> x.total(0, 65536));
        Forms.refused(Forms::full, "total: a tick, full", Forms.UNFIT, x -> x.total(0, 1 << 12));
        Forms.refused(TickForms::new, "total: part, mask", Forms.NO_SUCH, x -> x.total(5, 1));
        Forms.refused(TickForms::new, "answer: box, value", Forms.NO_SUCH, x -> x.answer(0, -2));
        Forms.refused(Forms::full, "answer: box, value", Forms.NO_SUCH, x -> x.answer(16, 100));
        Forms.refused(Forms::full, "append: code, full", Forms.UNFIT, x -> x.append(32));
        Forms.refused(Forms::full, "box: box, what", Forms.NO_SUCH, x -> x.box(16, 8));
        Forms.refused(TickForms::new, "part: part, what", Forms.NO_SUCH, x -> x.part(-1, -1));
        Forms.refused(Forms::full, "if: all", Forms.NO_SUCH, x -> x.ifAnswered(16, -2, 3));
        Forms.refused(Forms::full, "if: box, value", Forms.NO_SUCH, x -> x.ifAnswered(-1, 10, 0));
        Forms.refused(Forms::full, "if: box, what", Forms.NO_SUCH, x -> x.ifAnswered(16, 0, -1));
    }

    private static void looksChangeNothing() {
        Forms.Act[] looks = {x -> x.box(x.count(0) - 1, 5), x -> x.box(0, 7), x -> x.part(1, 2),
            x -> x.part(2, 5), x -> x.count(3), x -> x.count(6), x -> x.count(8)};
        for (Forms.Act look : looks) {
            changesNothing(look);
        }
    }

    private static void whatWouldBeChangesNothing() {
        Forms.Act[] trials = {x -> x.ifAnswered(0, NONE, 0), x -> x.ifAnswered(0, 9, 1),
            x -> x.ifAnswered(1, 0, 2), TickForms::shortest, TickForms::mostCarried,
            x -> (long) x.filled(), TickForms::digest};
        for (Forms.Act trial : trials) {
            changesNothing(trial);
        }
    }

    private static void changesNothing(Forms.Act look) {
        for (Forms.Way way : new Forms.Way[] {Forms::oneOfEach, Forms::answered, Forms::full}) {
            TickForms looked = way.make();
            long first = look.on(looked);
            Check.due("the same again", first, look.on(looked));
            Check.same("all as before", Forms.trail(way.make()), Forms.trail(looked));
        }
    }
}
