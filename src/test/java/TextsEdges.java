/** The sentences of the promises 9 to 13: the buffer, texts of answers, undo. */
final class TextsEdges {
    private static final int NONE = Forms.NONE;
    private static final Class<?> UNFIT = Forms.UNFIT;
    private static final Class<?> NOT_NOW = Forms.NOT_NOW;
    private static final String FIFTEEN_ANSWERS =
        "0=1,0=1,0=1,0=1,0=1,0=1,0=1,0=1,0=1,0=1,0=1,0=1,0=1,0=1,0=99";

    private TextsEdges() {
    }

    static void run() {
        append();
        clearBuffer();
        firstError();
        fill();
        undo();
    }

    private static TickForms sixtySigns() {
        return Forms.typed(FIFTEEN_ANSWERS);
    }

    private static void append() {
        Doc.section("Promise 9: append")
            .says("Appends a character to the buffer.", () -> {
                TickForms x = new TickForms();
                StringBuilder text = new StringBuilder();
                for (int i = 0; i < 60; i++) {
                    int code = 33 + i * 41 % 94;
                    x.append(code);
                    text.append((char) code);
                    Check.due("the buffer", Forms.hashOf(x, text.toString()), x.digest());
                }
                Forms.savesNothing(y -> y.append('1'));
            })
            .says("`code`: the character code, 33 to 126", () -> {
                for (int code = 33; code <= 126; code++) {
                    TickForms x = new TickForms();
                    Check.due("code " + code, 1, x.append(code));
                    Check.due("it is kept", Forms.hashOf(x, "" + (char) code), x.digest());
                }
            })
            .says("Returns the new length of the buffer.", () -> {
                TickForms x = new TickForms();
                for (int length = 1; length <= 60; length++) {
                    Check.due("length", length, x.append('~'));
                }
                x.clearBuffer();
                Check.due("after clearBuffer", 1, x.append('~'));
                TickForms y = Forms.typed("0=1");
                y.fill();
                Check.due("after fill", 1, y.append('~'));
            })
            .says("Throws `IllegalArgumentException` if code is not 33 to 126", () -> {
                for (int code : new int[] {32, 127, 0, -1, 10, 33 + 256, 126 - 256, 65536 + 48,
                    Forms.LEAST_INT, Forms.MOST_INT}) {
                    Forms.refused(TickForms::new, "code " + code, UNFIT, x -> x.append(code));
                    Forms.refused(TextsEdges::sixtySigns, "code " + code + " when full", UNFIT,
                        x -> x.append(code));
                }
            })
            .says("Throws `IllegalStateException` if the buffer has 60 characters", () -> {
                Check.due("the 60th", 60, Forms.typed(FIFTEEN_ANSWERS.substring(1)).append('1'));
                for (int code : new int[] {33, '0', 126}) {
                    Forms.refused(TextsEdges::sixtySigns, "the 61st", NOT_NOW, x -> x.append(code));
                }
            })
            .end();
    }

    private static void clearBuffer() {
        Doc.section("Promise 10: clearBuffer")
            .says("Clears the buffer.", () -> {
                TickForms x = sixtySigns();
                x.clearBuffer();
                Check.due("nothing is left", Forms.hashOf(new TickForms(), ""), x.digest());
                Check.refused(x, "no answers", UNFIT, x::fill);
                Forms.type(x, "1=x");
                Check.due("from the start", 2, x.firstError());
                Forms.savesNothing(TickForms::clearBuffer);
            })
            .says("Returns the length that it had.", () -> {
                TickForms x = new TickForms();
                Check.due("empty", 0, x.clearBuffer());
                Check.due("full", 60, sixtySigns().clearBuffer());
                x.append('!');
                Check.due("one", 1, x.clearBuffer());
                Check.due("empty again", 0, x.clearBuffer());
            })
            .end();
    }

    private static void firstError() {
        Doc.section("Promise 11: firstError")
            .says("Finds the first syntax error of the buffer.", () -> {
                for (int at = 0; at < 60; at++) {
                    String text = FIFTEEN_ANSWERS.substring(0, at) + "x"
                        + FIFTEEN_ANSWERS.substring(at + 1);
                    TickForms x = Forms.typed(text);
                    Check.due("x in the text", at, x.firstError());
                    Check.due("the same again", at, x.firstError());
                }
                Forms.savesNothing(TickForms::firstError);
            })
            .says("Returns the index of the first character that is a syntax error;", () -> {
                Check.due("the first", 0, Forms.typed("x").firstError());
                Check.due("the last", 59, Forms.typed(
                    FIFTEEN_ANSWERS.substring(0, 59) + "=").firstError());
                Check.due("two of them", 3, Forms.typed("1=0x1=0x").firstError());
            })
            .says("the length of the buffer if there is none.", () -> {
                Check.due("empty", 0, new TickForms().firstError());
                for (int length = 1; length <= 60; length++) {
                    Check.due("answers, or their beginning", length,
                        Forms.typed(FIFTEEN_ANSWERS.substring(0, length)).firstError());
                }
                Check.due("a full buffer that is not complete", 60,
                    Forms.typed(FIFTEEN_ANSWERS.substring(0, 59) + ",").firstError());
            })
            .end();
    }

    private static void fill() {
        Doc.section("Promise 12: fill")
            .says("Gives the answers in the buffer, one after the other,", TextsEdges::inOrder)
            .says("up to the first one for which answer() would throw an exception,",
                TextsEdges::upToTheFirstThatThrows)
            .says("and clears the buffer.", () -> {
                for (String text : new String[] {"0=1", "0=1,9=1", "9=1", FIFTEEN_ANSWERS}) {
                    TickForms x = Forms.combs(1);
                    Forms.type(x, text);
                    x.fill();
                    Check.due("after " + text, 0, x.clearBuffer());
                }
            })
            .says("Undoable, as one call, also if none is given.", TextsEdges::undoneAsOne)
            .says("Returns how many are given.", () -> {
                int[] given = {0, 1, 2, 3};
                String[] texts = {"9=1,0=1", "0=1", "0=1,0=-,9=1,0=1", "0=1,0=1,0=1"};
                for (int i = 0; i < texts.length; i++) {
                    TickForms x = Forms.combs(1);
                    Forms.type(x, texts[i]);
                    Check.due(texts[i], given[i], x.fill());
                }
                TickForms x = Forms.oneOfEach();
                Forms.type(x, FIFTEEN_ANSWERS);
                Check.due("a full buffer", 15, x.fill());
                Check.due("the last one", 99, x.box(0, 4));
            })
            .says("Throws `IllegalArgumentException` if the buffer is not complete answers as a text",
                () -> {
                    for (String text : new String[] {"", "0", "0=", "0=1,", "0=1,0", "0=1,0=",
                        "x", "0=1x", "0=100000", "16=1", "0=1,x", "00=1", "0=01", "0=--", "0==1",
                        "0=1,0=1,0=1,0=1,0=1,0=1,0=1,0=1,0=1,0=1,0=1,0=1,0=1,0=1,0=1,"}) {
                        Forms.refused(() -> {
                            TickForms x = Forms.oneOfEach();
                            Forms.type(x, text);
                            return x;
                        }, "fill of " + text, UNFIT, TickForms::fill);
                    }
                    TickForms x = Forms.combs(1);
                    Forms.type(x, "0=");
                    Check.refused(x, "not yet complete", UNFIT, x::fill);
                    x.append('7');
                    Check.due("complete now", 1, x.fill());
                    Check.due("its answer", 7, x.box(0, 4));
                    Check.refused(x, "cleared", UNFIT, x::fill);
                })
            .end();
    }

    private static void inOrder() {
        TickForms x = Forms.combs(16);
        Forms.type(x, "0=1,1=2,9=3,10=4,15=5,0=-,9=6");
        Check.due("given", 7, x.fill());
        int[] due = {NONE, 2, NONE, NONE, NONE, NONE, NONE, NONE, NONE, 6, 4, NONE, NONE, NONE, NONE,
            5};
        for (int b = 0; b < due.length; b++) {
            Check.due("box " + b, due[b], x.box(b, 4));
        }
        TickForms y = Forms.oneOfEach();
        Forms.type(y, "4=99999,1=1,2=99,0=0,3=-");
        Check.due("a closed box, and a total that is emptied", 5, y.fill());
        Check.due("the closed box", 99999, y.box(4, 4));
        Check.due("the share", 0, y.count(2));
    }

    /** Boxes 0 comb, 1 tick, 2 skip, 3 total, 4 comb with five teeth; no box 5. */
    private static void upToTheFirstThatThrows() {
        String[] refused = {"0=100", "1=2", "2=100", "3=0", "5=1", "5=-", "15=0"};
        for (String wrong : refused) {
            for (int ahead = 0; ahead <= 2; ahead++) {
                TickForms x = Forms.oneOfEach();
                Forms.type(x, ahead == 0 ? "" : ahead == 1 ? "0=99," : "0=99,1=1,");
                Forms.type(x, wrong + ",4=7");
                Check.due("given ahead of " + wrong, ahead, x.fill());
                Check.due("the first", ahead > 0 ? 99 : NONE, x.box(0, 4));
                Check.due("the second", ahead > 1 ? 1 : NONE, x.box(1, 4));
                Check.due("the skip", NONE, x.box(2, 4));
                Check.due("none behind it", NONE, x.box(4, 4));
            }
        }
        String[] fit = {"0=99", "1=1", "2=99", "3=-", "4=99999", "0=0", "1=0", "2=0", "4=0"};
        for (String right : fit) {
            TickForms x = Forms.oneOfEach();
            Forms.type(x, right);
            Check.due("given: " + right, 1, x.fill());
        }
        TickForms none = Forms.typed("0=-,0=-");
        Check.due("a form without boxes", 0, none.fill());
        TickForms full = Forms.combs(16);
        Forms.type(full, "15=9,15=10,0=1");
        Check.due("the box 15", 1, full.fill());
        Check.due("its answer", 9, full.box(15, 4));
        Check.due("none behind it", NONE, full.box(0, 4));
    }

    private static void undoneAsOne() {
        Forms.undoable(x -> {
            x.comb(0, 1);
            Forms.type(x, "0=4,0=5,0=6");
        }, TickForms::fill, x -> x.comb(5, 1));
        Forms.undoable(x -> Forms.type(x, "0=4"), TickForms::fill, x -> x.comb(5, 1));
        TickForms x = Forms.oneOfEach();
        x.answer(0, 8);
        Forms.type(x, "0=1,1=1,2=50,4=5");
        Check.due("given", 4, x.fill());
        x.undo();
        Check.due("the answer before all of them", 8, x.box(0, 4));
        Check.due("the only answer", 1, x.count(7));
        Check.due("the buffer does not come back", 0, x.clearBuffer());
        TickForms y = Forms.combs(1);
        Forms.type(y, "9=1");
        Check.due("none is given", 0, y.fill());
        Check.due("saved", 2, y.count(8));
        Check.due("undone", 1, y.undo());
        Check.due("the comb is there", 1, y.count(0));
    }

    private static void undo() {
        Doc.section("Promise 13: undo")
            .says("Restores the latest saved state,", () -> {
                TickForms x = Forms.answered();
                String answered = Forms.looks(x);
                x.tick(1, NONE);
                String ticked = Forms.looks(x);
                x.drop();
                x.undo();
                Check.same("before drop", ticked, Forms.looks(x));
                x.undo();
                Check.same("before tick", answered, Forms.looks(x));
                TickForms y = Forms.combs(16);
                y.undo();
                y.skip(0, 1, 5);
                y.answer(15, 6);
                y.undo();
                Check.due("emptied", NONE, y.box(15, 4));
                Check.due("a skip in the place of the comb", 2, y.box(15, 0));
                y.undo();
                Check.due("fifteen", 15, y.count(0));
                TickForms z = Forms.combs(1);
                z.undo();
                Check.same("a form without boxes", Forms.looks(new TickForms()), Forms.looks(z));
            })
            .says("and drops it.", () -> {
                TickForms x = Forms.combs(3);
                x.undo();
                Check.due("two", 2, x.count(0));
                x.undo();
                Check.due("the one before it", 1, x.count(0));
                Check.due("saved", 1, x.count(8));
                x.tick(0, 1);
                x.undo();
                Check.due("an undo is not undone", 1, x.count(0));
                x.undo();
                Check.refused(x, "none is left", NOT_NOW, x::undo);
            })
            .says("Returns how many saved states are left.", () -> {
                for (int calls = 1; calls <= 8; calls++) {
                    TickForms x = Forms.combs(calls);
                    for (int left = Math.min(calls, 6) - 1; left >= 0; left--) {
                        Check.due("left of " + calls, left, x.undo());
                    }
                }
            })
            .says("Throws `IllegalStateException` if there is none", () -> {
                Forms.refused(TickForms::new, "a new form", NOT_NOW, TickForms::undo);
                Forms.refused(() -> Forms.typed("1=1"), "characters are not undone", NOT_NOW,
                    TickForms::undo);
                for (int calls = 1; calls <= 8; calls++) {
                    int number = calls;
                    Forms.refused(() -> {
                        TickForms x = Forms.combs(number);
                        for (int i = 0; i < 6 && i < number; i++) {
                            x.undo();
                        }
                        return x;
                    }, "all are undone", NOT_NOW, TickForms::undo);
                }
            })
            .end();
    }
}
