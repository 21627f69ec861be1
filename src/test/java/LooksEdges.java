/** The sentences of the promises 14 to 21: looks, what would be, and the hash. */
final class LooksEdges {
    private static final int NONE = Forms.NONE;
    private static final int LEAST_INT = Forms.LEAST_INT;
    private static final int MOST_INT = Forms.MOST_INT;
    private static final Class<?> NO_SUCH = Forms.NO_SUCH;
    private static final Class<?> UNFIT = Forms.UNFIT;

    private LooksEdges() {
    }

    static void run() {
        box();
        part();
        count();
        ifAnswered();
        shortest();
        mostCarried();
        filled();
        digest();
    }

    // ---- looks

    /** One look at each box, in their order. */
    private static void dueOfBoxes(TickForms x, int what, int... numbers) {
        Check.due("boxes", numbers.length, x.count(0));
        for (int b = 0; b < numbers.length; b++) {
            Check.due("box " + b, numbers[b], x.box(b, what));
        }
    }

    private static void dueOfParts(TickForms x, int what, int... numbers) {
        for (int p = 0; p < numbers.length; p++) {
            Check.due("part " + p, numbers[p], x.part(p, what));
        }
    }

    private static void dueCounts(int what, int empty, int oneOfEach, int answered, int full) {
        Check.due("a new form", empty, new TickForms().count(what));
        Check.due("one of each kind", oneOfEach, Forms.oneOfEach().count(what));
        Check.due("with answers", answered, Forms.answered().count(what));
        Check.due("a full form", full, Forms.full().count(what));
    }

    private static void box() {
        Doc.section("Promise 14: box")
            .says("Returns something of a box.", () -> {
                TickForms x = Forms.answered();
                Check.due("the comb's answer", 42, x.box(0, 4));
                Check.due("another comb's answer", 12345, x.box(4, 4));
            })
            .says("`box`: its number", () -> {
                TickForms x = Forms.combs(16);
                x.answer(0, 3);
                x.answer(15, 4);
                Check.due("the first", 3, x.box(0, 4));
                Check.due("the last", 4, x.box(15, 4));
                Check.due("one between", NONE, x.box(14, 4));
            })
            .says("`what`: 0: its kind", () -> dueOfBoxes(Forms.oneOfEach(), 0, 0, 1, 2, 3, 0))
            .says("1: its part", () -> {
                TickForms x = Forms.oneOfEach();
                x.total(4, 0);
                dueOfBoxes(x, 1, 0, 0, 0, 0, 1, 4);
            })
            .says("2: its teeth, or the part that it can open or close (NONE for a tick without "
                + "one), or its mask", () -> {
                    TickForms x = Forms.oneOfEach();
                    x.tick(4, NONE);
                    x.tick(3, 4);
                    x.total(0, 0);
                    x.total(0, 128 + 8);
                    dueOfBoxes(x, 2, 2, 1, 2, 1, 5, NONE, 4, 0, 136);
                })
            .says("3: its limit, NONE if it is no skip", () -> {
                TickForms x = Forms.oneOfEach();
                x.skip(0, 1, 0);
                x.skip(3, 4, 99);
                dueOfBoxes(x, 3, NONE, NONE, 50, NONE, NONE, 0, 99);
            })
            .says("4: its answer, NONE if it is empty, or a total", () -> {
                TickForms x = Forms.answered();
                dueOfBoxes(x, 4, 42, 1, 50, NONE, 12345);
                x.clear();
                dueOfBoxes(x, 4, NONE, NONE, NONE, NONE, NONE);
                for (int b : new int[] {0, 1, 2, 4}) {
                    x.answer(b, 0);
                }
                dueOfBoxes(x, 4, 0, 0, 0, NONE, 0);
            })
            .says("5: its value, NONE if it is a tick or a skip", () -> {
                TickForms x = Forms.answered();
                dueOfBoxes(x, 5, 42, NONE, NONE, 42, 12345);
                x.answer(1, 0);
                dueOfBoxes(x, 5, 42, NONE, NONE, 42, 12345);
                x.clear();
                dueOfBoxes(x, 5, 0, NONE, NONE, 0, 0);
            })
            .says("6: 1 if it is open, otherwise 0", () -> {
                TickForms x = Forms.oneOfEach();
                x.total(2, 1);
                dueOfBoxes(x, 6, 1, 1, 1, 1, 0, 1);
                x.answer(1, 1);
                x.answer(2, 50);
                dueOfBoxes(x, 6, 1, 1, 1, 1, 1, 0);
            })
            .says("7: 1 if it wants an answer, otherwise 0", () -> {
                TickForms x = Forms.oneOfEach();
                dueOfBoxes(x, 7, 1, 1, 1, 0, 0);
                x.answer(1, 1);
                dueOfBoxes(x, 7, 1, 0, 1, 0, 1);
                dueOfBoxes(Forms.answered(), 7, 0, 0, 0, 0, 0);
            })
            .says("Returns the number.", () -> {
                TickForms x = Forms.combs(1);
                int[] due = {0, 0, 1, NONE, NONE, 0, 1, 1};
                for (int what = 0; what < due.length; what++) {
                    Check.due("number " + what, due[what], x.box(0, what));
                }
            })
            .says("Throws `IndexOutOfBoundsException` if there is no such box", () -> {
                for (int box : new int[] {-1, 0, 16, LEAST_INT, MOST_INT}) {
                    Forms.refused(TickForms::new, "box " + box, NO_SUCH, x -> x.box(box, 0));
                }
                for (int boxes = 1; boxes <= 16; boxes++) {
                    int number = boxes;
                    Forms.refused(() -> Forms.combs(number), "box " + boxes, NO_SUCH,
                        x -> x.box(number, 4));
                    Check.due("the last one", 1, Forms.combs(number).box(number - 1, 7));
                }
                Forms.refused(() -> {
                    TickForms x = Forms.combs(2);
                    x.undo();
                    return x;
                }, "an undone box", NO_SUCH, x -> x.box(1, 0));
            })
            .says("Throws `IllegalArgumentException` if what is not 0 to 7", () -> {
                for (int what : new int[] {-1, 8, LEAST_INT, MOST_INT}) {
                    for (int b = 0; b < 5; b++) {
                        int box = b;
                        Forms.refused(Forms::oneOfEach, "what " + what, UNFIT,
                            x -> x.box(box, what));
                    }
                }
            })
            .end();
    }

    private static void part() {
        Doc.section("Promise 15: part")
            .says("Returns something of a part.", () -> {
                TickForms x = Forms.oneOfEach();
                Check.due("boxes of the part 0", 4, x.part(0, 1));
                Check.due("boxes of the part 1", 1, x.part(1, 1));
            })
            .says("`part`: 0 to 4", () -> {
                TickForms x = new TickForms();
                for (int p = 0; p <= 4; p++) {
                    for (int i = 0; i <= p && p > 0; i++) {
                        x.total(p, 0);
                    }
                }
                dueOfParts(x, 1, 0, 2, 3, 4, 5);
            })
            .says("`what`: 0: 1 if it is open, otherwise 0", () -> {
                dueOfParts(new TickForms(), 0, 1, 1, 1, 1, 1);
                dueOfParts(Forms.oneOfEach(), 0, 1, 0, 1, 1, 1);
                dueOfParts(Forms.answered(), 0, 1, 1, 0, 1, 1);
            })
            .says("1: its boxes", () -> {
                dueOfParts(new TickForms(), 1, 0, 0, 0, 0, 0);
                dueOfParts(Forms.oneOfEach(), 1, 4, 1, 0, 0, 0);
                dueOfParts(Forms.full(), 1, 15, 0, 0, 0, 1);
                dueOfParts(Forms.combs(16), 1, 16, 0, 0, 0, 0);
            })
            .says("2: boxes of it that want an answer", () -> {
                TickForms x = Forms.oneOfEach();
                x.comb(2, 1);
                dueOfParts(x, 2, 3, 0, 1, 0, 0);
                x.answer(1, 1);
                dueOfParts(x, 2, 2, 1, 1, 0, 0);
                x.answer(2, 50);
                dueOfParts(x, 2, 1, 1, 0, 0, 0);
                x.answer(0, 0);
                x.answer(4, 0);
                dueOfParts(x, 2, 0, 0, 0, 0, 0);
                dueOfParts(Forms.combs(16), 2, 16, 0, 0, 0, 0);
            })
            .says("3: ticks that can open it", () -> {
                dueOfParts(Forms.oneOfEach(), 3, 0, 1, 0, 0, 0);
                TickForms x = new TickForms();
                x.tick(0, NONE);
                x.tick(0, 4);
                x.tick(3, 4);
                x.comb(0, 4);
                x.skip(0, 4, 4);
                x.total(0, 8);
                dueOfParts(x, 3, 0, 0, 0, 0, 2);
                x.answer(1, 1);
                x.answer(4, 99);
                dueOfParts(x, 3, 0, 0, 0, 0, 2);
            })
            .says("4: skips that can close it", () -> {
                dueOfParts(Forms.oneOfEach(), 4, 0, 0, 1, 0, 0);
                TickForms x = new TickForms();
                x.skip(0, 4, 1);
                x.skip(3, 4, 99);
                x.comb(0, 4);
                x.tick(0, 4);
                x.total(0, 4);
                dueOfParts(x, 4, 0, 0, 0, 0, 2);
                x.answer(1, 99);
                dueOfParts(x, 4, 0, 0, 0, 0, 2);
            })
            .says("5: 1 if a skip closes it now (by an answer, in an open part), otherwise 0",
                LooksEdges::skippedParts)
            .says("Returns the number.", () -> {
                TickForms x = Forms.combs(1);
                int[] due = {1, 1, 1, 0, 0, 0};
                for (int what = 0; what < due.length; what++) {
                    Check.due("number " + what, due[what], x.part(0, what));
                }
            })
            .says("Throws `IndexOutOfBoundsException` if there is no such part", () -> {
                for (int part : new int[] {-1, 5, LEAST_INT, MOST_INT}) {
                    for (int what = 0; what <= 5; what++) {
                        int number = what;
                        Forms.refused(Forms::oneOfEach, "part " + part, NO_SUCH,
                            x -> x.part(part, number));
                    }
                }
            })
            .says("Throws `IllegalArgumentException` if what is not 0 to 5", () -> {
                for (int what : new int[] {-1, 6, 7, LEAST_INT, MOST_INT}) {
                    for (int p = 0; p <= 4; p++) {
                        int part = p;
                        Forms.refused(Forms::oneOfEach, "what " + what, UNFIT,
                            x -> x.part(part, what));
                    }
                }
            })
            .end();
    }

    private static void skippedParts() {
        TickForms x = new TickForms();
        x.skip(0, 2, 0);
        x.skip(1, 3, 99);
        dueOfParts(x, 5, 0, 0, 0, 0, 0);
        x.answer(0, 0);
        x.answer(1, 98);
        dueOfParts(x, 5, 0, 0, 1, 0, 0);
        x.answer(1, 99);
        dueOfParts(x, 5, 0, 0, 1, 1, 0);
        x.tick(0, 1);
        dueOfParts(x, 5, 0, 0, 1, 0, 0);
        x.tick(0, 2);
        dueOfParts(x, 5, 0, 0, 1, 0, 0);
        x.answer(3, 1);
        Check.due("closed over its tick", 0, x.part(2, 0));
        dueOfParts(x, 5, 0, 0, 1, 0, 0);
        x.answer(0, NONE);
        dueOfParts(x, 5, 0, 0, 0, 0, 0);
        x.answer(3, 0);
        Check.due("closed, but not by a skip", 0, x.part(2, 0));
        dueOfParts(x, 5, 0, 0, 0, 0, 0);
    }

    private static void count() {
        Doc.section("Promise 16: count")
            .passes("Returns a number.")
            .says("`what`: 0: boxes", () -> {
                dueCounts(0, 0, 5, 5, 16);
                TickForms x = Forms.combs(1);
                x.drop();
                Check.due("dropped", 0, x.count(0));
            })
            .says("1: open boxes", () -> {
                dueCounts(1, 0, 4, 5, 16);
                TickForms x = Forms.oneOfEach();
                x.total(1, 0);
                Check.due("a closed total", 4, x.count(1));
                x.answer(1, 1);
                Check.due("an open total", 6, x.count(1));
            })
            .says("2: boxes that want an answer", () -> {
                dueCounts(2, 0, 3, 0, 14);
                Check.due("sixteen", 16, Forms.combs(16).count(2));
            })
            .says("3: the first of these, NONE if there is none", () -> {
                dueCounts(3, NONE, 0, NONE, 0);
                TickForms x = Forms.oneOfEach();
                int[] first = {1, 2};
                for (int b = 0; b < 2; b++) {
                    x.answer(b, 0);
                    Check.due("the next", first[b], x.count(3));
                }
                x.answer(2, 0);
                Check.due("a closed one is not wanted", NONE, x.count(3));
                x.answer(1, 1);
                Check.due("the last one", 4, x.count(3));
                TickForms y = Forms.combs(16);
                for (int b = 0; b < 15; b++) {
                    y.answer(b, 0);
                }
                Check.due("the sixteenth", 15, y.count(3));
            })
            .says("4: 1 if the form is whole, otherwise 0", () -> {
                dueCounts(4, 1, 0, 1, 0);
                TickForms x = Forms.combs(1);
                Check.due("one is wanted", 0, x.count(4));
                x.answer(0, 0);
                Check.due("none is", 1, x.count(4));
            })
            .says("5: open parts", () -> {
                dueCounts(5, 5, 4, 4, 4);
                Check.due("only the part 0", 1, onlyPartZero().count(5));
            })
            .says("6: a mask of them", () -> {
                dueCounts(6, 31, 29, 27, 29);
                Check.due("only the part 0", 1, onlyPartZero().count(6));
            })
            .says("7: boxes with an answer", () -> {
                dueCounts(7, 0, 0, 4, 0);
                TickForms x = Forms.answered();
                x.answer(1, 0);
                Check.due("a closed one has it too, and 0 is one", 4, x.count(7));
                x.answer(4, NONE);
                Check.due("one is emptied", 3, x.count(7));
                TickForms y = Forms.combs(16);
                for (int b = 0; b < 16; b++) {
                    y.answer(b, 0);
                }
                Check.due("sixteen", 16, y.count(7));
            })
            .says("8: saved states", () -> {
                dueCounts(8, 0, 5, 6, 6);
                for (int calls = 0; calls <= 8; calls++) {
                    Check.due(calls + " calls", Math.min(calls, 6), Forms.combs(calls).count(8));
                }
            })
            .says("Returns the number.", () -> {
                int[] due = {1, 1, 1, 0, 0, 5, 31, 0, 1};
                for (int what = 0; what < due.length; what++) {
                    Check.due("number " + what, due[what], Forms.combs(1).count(what));
                }
            })
            .says("Throws `IllegalArgumentException` if what is not 0 to 8", () -> {
                for (int what : new int[] {-1, 9, LEAST_INT, MOST_INT}) {
                    Forms.refused(TickForms::new, "what " + what, UNFIT, x -> x.count(what));
                    Forms.refused(Forms::full, "what " + what, UNFIT, x -> x.count(what));
                }
            })
            .end();
    }

    private static TickForms onlyPartZero() {
        TickForms x = new TickForms();
        for (int p = 1; p < 5; p++) {
            x.tick(0, p);
        }
        return x;
    }

    // ---- what would be

    private static void ifAnswered() {
        Doc.section("Promise 17: ifAnswered")
            .says("Tells what an answer would bring.", () -> {
                int[] values = {NONE, 0, 1, 50, 99};
                for (int b = 0; b < 5; b++) {
                    for (int value : values) {
                        int box = b;
                        TickForms x = Forms.answered();
                        String told = Check.outcome(() -> x.ifAnswered(box, value, 0)) + " "
                            + Check.outcome(() -> x.ifAnswered(box, value, 1)) + " "
                            + Check.outcome(() -> x.ifAnswered(box, value, 2));
                        String wanted = Check.outcome(() -> x.answer(box, value));
                        String due = wanted.endsWith("Exception") ? wanted + " " + wanted + " " + wanted
                            : wanted + " " + x.count(6) + " " + x.box(3, 5);
                        Check.same("box " + b + ", value " + value, due, told);
                    }
                }
            })
            .says("`box`: its number", () -> {
                TickForms x = Forms.combs(15);
                x.total(0, 1 + (1 << 14));
                Check.due("the first", 9, x.ifAnswered(0, 9, 2));
                Check.due("the last comb", 9, x.ifAnswered(14, 9, 2));
                Check.due("one that is not carried", 0, x.ifAnswered(13, 9, 2));
                Check.due("the last", 15, x.ifAnswered(15, NONE, 0));
            })
            .says("`value`: the answer; NONE to empty it", () -> {
                TickForms x = Forms.answered();
                Check.due("the least", 0, x.ifAnswered(0, 0, 2));
                Check.due("the most", 99, x.ifAnswered(0, 99, 2));
                Check.due("it is given", 0, x.ifAnswered(0, 99, 0));
                Check.due("it is emptied", 1, x.ifAnswered(0, NONE, 0));
                Check.due("as an empty one", 0, x.ifAnswered(0, NONE, 2));
                Check.due("a total", 42, x.ifAnswered(3, NONE, 2));
            })
            .says("`what`: 0: boxes that would want an answer", () -> {
                TickForms x = Forms.oneOfEach();
                Check.due("a comb is given", 2, x.ifAnswered(0, 0, 0));
                Check.due("a part is opened, that wants one", 3, x.ifAnswered(1, 1, 0));
                Check.due("it stays closed", 2, x.ifAnswered(1, 0, 0));
                Check.due("a closed comb", 3, x.ifAnswered(4, 1, 0));
                Check.due("sixteen", 16, Forms.combs(16).ifAnswered(0, NONE, 0));
                Check.due("none", 0, Forms.combs(1).ifAnswered(0, 0, 0));
            })
            .says("1: a mask of the parts that would be open", () -> {
                TickForms x = Forms.oneOfEach();
                Check.due("opened by 1", 31, x.ifAnswered(1, 1, 1));
                Check.due("closed by 0", 29, x.ifAnswered(1, 0, 1));
                Check.due("below the limit", 29, x.ifAnswered(2, 49, 1));
                Check.due("at the limit", 25, x.ifAnswered(2, 50, 1));
                TickForms y = Forms.answered();
                Check.due("the tick is emptied", 25, y.ifAnswered(1, NONE, 1));
                Check.due("the skip is emptied", 31, y.ifAnswered(2, NONE, 1));
            })
            .says("2: the value of the last total, NONE without totals", () -> {
                Check.due("a comb alone", NONE, Forms.combs(1).ifAnswered(0, 5, 2));
                Check.due("sixteen combs", NONE, Forms.combs(16).ifAnswered(15, 5, 2));
                TickForms x = Forms.oneOfEach();
                Check.due("the only total", 7, x.ifAnswered(0, 7, 2));
                x.total(1, 1 + 8);
                Check.due("the last of two, also if it is not open", 14, x.ifAnswered(0, 7, 2));
                x.total(0, 0);
                Check.due("the last of three", 0, x.ifAnswered(0, 7, 2));
                x.undo();
                Check.due("the last of two", 14, x.ifAnswered(0, 7, 2));
                TickForms y = new TickForms();
                y.total(0, 0);
                y.comb(0, 1);
                Check.due("ahead of the combs", 0, y.ifAnswered(1, 5, 2));
                y.undo();
                y.undo();
                y.comb(0, 1);
                Check.due("without it", NONE, y.ifAnswered(0, 5, 2));
                TickForms z = new TickForms();
                for (int b = 0; b < 11; b++) {
                    z.comb(0, 5);
                    z.answer(b, b < 10 ? 99999 : 0);
                }
                z.total(0, 2047);
                Check.due("the most", 999999, z.ifAnswered(10, 9, 2));
                Check.due("at most", 999999, z.ifAnswered(10, 99999, 2));
                Check.due("below the most", 999998, z.ifAnswered(10, 8, 2));
            })
            .says("Returns the number.", () -> {
                TickForms x = Forms.answered();
                int[] due = {1, 25, 42};
                for (int what = 0; what < due.length; what++) {
                    Check.due("number " + what, due[what], x.ifAnswered(1, NONE, what));
                }
            })
            .says("Throws `IndexOutOfBoundsException` if there is no such box", () -> {
                for (int box : new int[] {-1, 0, 16, LEAST_INT, MOST_INT}) {
                    Forms.refused(TickForms::new, "box " + box, NO_SUCH,
                        x -> x.ifAnswered(box, NONE, 0));
                }
                for (int boxes = 1; boxes <= 16; boxes++) {
                    int number = boxes;
                    Forms.refused(() -> Forms.combs(number), "box " + boxes, NO_SUCH,
                        x -> x.ifAnswered(number, 1, 1));
                }
            })
            .says("Throws `IllegalArgumentException` if value is neither NONE nor an answer that the "
                + "box can have,", () -> {
                    int[][] unfit = {{0, 100}, {1, 2}, {2, 100}, {3, 0}, {4, 100000}};
                    for (int[] answer : unfit) {
                        for (int value : new int[] {answer[1], -2, LEAST_INT, MOST_INT}) {
                            for (int what = 0; what <= 2; what++) {
                                int number = what;
                                Forms.refused(Forms::oneOfEach, "value " + value, UNFIT,
                                    x -> x.ifAnswered(answer[0], value, number));
                            }
                        }
                    }
                })
            .says("or what is not 0 to 2", () -> {
                for (int what : new int[] {-1, 3, LEAST_INT, MOST_INT}) {
                    for (int b = 0; b < 5; b++) {
                        int box = b;
                        Forms.refused(Forms::oneOfEach, "what " + what, UNFIT,
                            x -> x.ifAnswered(box, NONE, what));
                    }
                    Forms.refused(Forms::oneOfEach, "what " + what, UNFIT,
                        x -> x.ifAnswered(0, 5, what));
                }
            })
            .end();
    }

    private static void shortest() {
        Doc.section("Promise 18: shortest")
            .says("Finds the fewest answers that make the form whole.", () -> {
                Check.due("sixteen", 16, Forms.combs(16).shortest());
                Check.due("one", 1, Forms.combs(1).shortest());
                TickForms x = Forms.oneOfEach();
                Check.due("the closed part stays closed", 3, x.shortest());
                x.answer(1, 1);
                Check.due("it is open", 3, x.shortest());
                TickForms y = new TickForms();
                y.tick(0, 1);
                y.skip(1, 2, 1);
                y.comb(2, 1);
                Check.due("by the tick and the comb, or the tick and the skip", 2, y.shortest());
                y.comb(2, 1);
                Check.due("by the tick and the skip", 2, y.shortest());
                y.drop();
                y.drop();
                Check.due("by the tick alone", 1, y.shortest());
            })
            .says("Boxes that are empty now can be answered, with any answers that they can have;",
                LooksEdges::anyAnswers)
            .says("other boxes stay as they are.", () -> {
                TickForms x = new TickForms();
                x.tick(0, 1);
                x.comb(1, 1);
                x.comb(1, 1);
                Check.due("an empty tick", 1, x.shortest());
                x.answer(0, 1);
                Check.due("a tick that is 1", 2, x.shortest());
                x.answer(0, 0);
                Check.due("a tick that is 0", 0, x.shortest());
                TickForms y = new TickForms();
                y.skip(0, 1, 5);
                y.comb(1, 1);
                y.comb(1, 1);
                Check.due("an empty skip", 1, y.shortest());
                y.answer(0, 4);
                Check.due("a skip below its limit", 2, y.shortest());
                y.answer(0, 5);
                Check.due("a skip at its limit", 0, y.shortest());
                y.answer(0, 0);
                y.skip(0, 1, 99);
                Check.due("a second one", 1, y.shortest());
            })
            .says("Returns the fewest empty boxes that can be answered in some way so that the form "
                + "is whole then;", LooksEdges::againstAllSets)
            .says("0 if it is whole.", () -> {
                Check.due("without boxes", 0, new TickForms().shortest());
                Check.due("with answers", 0, Forms.answered().shortest());
                TickForms x = new TickForms();
                x.total(0, 0);
                Check.due("a total alone", 0, x.shortest());
                x.tick(0, 1);
                x.comb(1, 1);
                x.answer(1, 0);
                Check.due("an empty box in a closed part", 0, x.shortest());
                Check.due("it is whole", 1, x.count(4));
            })
            .end();
    }

    private static void anyAnswers() {
        TickForms x = new TickForms();
        x.skip(0, 1, 99);
        x.comb(1, 1);
        Check.due("99 closes", 1, x.shortest());
        TickForms y = new TickForms();
        y.tick(0, 1);
        y.skip(1, 2, 1);
        y.skip(2, 3, 0);
        for (int i = 0; i < 6; i++) {
            y.comb(3, 1);
        }
        Check.due("the part 2 is open: its skip with the limit 0 closes the part 3", 2, y.shortest());
        TickForms z = new TickForms();
        z.skip(0, 1, 0);
        z.skip(1, 2, 1);
        z.comb(2, 1);
        z.comb(2, 1);
        Check.due("every answer of the limit 0 closes the part 1", 3, z.shortest());
        z.answer(1, 99);
        Check.due("a skip that stays closed closes nothing", 3, z.shortest());
        TickForms w = new TickForms();
        w.skip(0, 1, 1);
        w.skip(1, 2, 1);
        w.comb(2, 1);
        w.comb(2, 1);
        Check.due("0 is below the limit 1: the part 1 stays open", 2, w.shortest());
    }

    /** Small forms by number, against the model that tries all sets of empty boxes. */
    private static void againstAllSets() {
        for (int number = 0; number < 4096; number++) {
            TickForms x = new TickForms();
            Model model = new Model();
            int left = number * 2654435 + 977;
            for (int b = 0; b < 6; b++) {
                int part = (left >>> 3) % 4;
                int to = part + 1 + (left >>> 7) % (4 - part);
                int limit = (left >>> 11) % 3 == 0 ? 0 : 5;
                switch ((left >>> 13) % 3) {
                    case 0 -> Check.due("comb", model.comb(part + 1, 1), x.comb(part + 1, 1));
                    case 1 -> Check.due("tick", model.tick(part, to), x.tick(part, to));
                    default -> Check.due("skip", model.skip(part, to, limit),
                        x.skip(part, to, limit));
                }
                if ((left >>> 15) % 4 == 0) {
                    int value = (left >>> 17) % 2;
                    Check.due("answer", model.answer(b, value), x.answer(b, value));
                }
                left = (left * 1103515245 + 12345) & Integer.MAX_VALUE;
            }
            Check.due("form " + number, model.shortestByAllSets(), x.shortest());
        }
    }

    private static void mostCarried() {
        Doc.section("Promise 19: mostCarried")
            .says("Finds the box on which most totals hang.", () -> {
                TickForms x = Forms.combs(3);
                x.total(0, 4);
                Check.due("the only one", 2, x.mostCarried());
                x.total(0, 2);
                x.total(0, 2);
                Check.due("the one with two", 1, x.mostCarried());
            })
            .says("Returns the comb or total that is carried into most totals (a box is carried into "
                + "a total, if it is in its mask, or is carried into a total that is in its mask);",
                LooksEdges::carried)
            .says("of several the lowest;", () -> {
                TickForms x = Forms.combs(15);
                x.total(0, 32767 - 1);
                Check.due("fourteen of them", 1, x.mostCarried());
                TickForms y = Forms.combs(2);
                y.total(0, 2);
                y.total(0, 1);
                Check.due("in other totals", 0, y.mostCarried());
                TickForms z = new TickForms();
                z.total(0, 0);
                z.comb(0, 1);
                z.total(0, 3);
                Check.due("a total ahead of a comb", 0, z.mostCarried());
            })
            .says("NONE if none is carried into any.", () -> {
                Check.due("without boxes", NONE, new TickForms().mostCarried());
                Check.due("without totals", NONE, Forms.combs(16).mostCarried());
                TickForms x = Forms.combs(1);
                x.tick(0, 1);
                x.total(0, 0);
                x.total(4, 0);
                Check.due("with empty masks", NONE, x.mostCarried());
                x.total(0, 1);
                Check.due("into one", 0, x.mostCarried());
                x.drop();
                Check.due("into none any more", NONE, x.mostCarried());
            })
            .end();
    }

    private static void carried() {
        TickForms x = Forms.combs(2);
        x.total(0, 2);
        x.total(0, 1);
        x.total(0, 8);
        Check.due("into a total of a total", 0, x.mostCarried());
        x.total(0, 4);
        x.total(0, 32);
        Check.due("through two totals", 1, x.mostCarried());
        TickForms y = Forms.combs(1);
        y.total(0, 0);
        for (int t = 2; t < 15; t++) {
            y.total(0, 1 << t - 1);
        }
        Check.due("a chain hangs on its first, a total", 1, y.mostCarried());
        y.total(0, 1);
        Check.due("one total more, elsewhere", 1, y.mostCarried());
        TickForms z = Forms.combs(2);
        z.total(0, 1);
        z.total(0, 5);
        z.total(0, 2);
        z.total(0, 2);
        z.total(0, 2);
        Check.due("on two ways it counts once", 1, z.mostCarried());
        TickForms w = new TickForms();
        w.tick(0, 3);
        w.comb(3, 1);
        w.comb(0, 1);
        w.total(3, 2);
        w.total(3, 2);
        w.total(0, 4);
        Check.due("closed boxes and closed totals too", 1, w.mostCarried());
    }

    private static void filled() {
        Doc.section("Promise 20: filled")
            .says("Returns how far the form is filled.", () -> {
                TickForms x = Forms.combs(4);
                for (int b = 0; b < 4; b++) {
                    Check.dueShare("fourths", b * 0.25, x.filled());
                    x.answer(b, 0);
                }
                Check.dueShare("all", 1.0, x.filled());
            })
            .says("Returns the open boxes that can be answered and are, as a double, divided by all "
                + "open ones that can be answered;", () -> {
                    for (int all = 1; all <= 16; all++) {
                        TickForms x = Forms.combs(all);
                        for (int given = 0; given <= all; given++) {
                            Check.dueShare("the share", (double) given / all, x.filled());
                            if (given < all) {
                                x.answer(given, 0);
                            }
                        }
                    }
                    TickForms y = Forms.oneOfEach();
                    y.answer(4, 1);
                    Check.dueShare("a closed one does not count", 0.0, y.filled());
                    y.answer(0, 1);
                    Check.dueShare("nor does a total", 1.0 / 3.0, y.filled());
                    y.answer(1, 1);
                    Check.dueShare("now it is open", 0.75, y.filled());
                })
            .says("1.0 without any.", () -> {
                Check.dueShare("without boxes", 1.0, new TickForms().filled());
                TickForms x = new TickForms();
                x.total(0, 0);
                Check.dueShare("a total alone", 1.0, x.filled());
                x.comb(0, 1);
                Check.dueShare("a comb", 0.0, x.filled());
                x.drop();
                Check.dueShare("dropped", 1.0, x.filled());
            })
            .end();
    }

    // ---- the hash

    private static final long[] NEW_FORM = {
        0, 0, 0, -1, 1, 5, 31, 0, 0,
        1, 0, 0, 0, 0, 0,  1, 0, 0, 0, 0, 0,  1, 0, 0, 0, 0, 0,  1, 0, 0, 0, 0, 0,  1, 0, 0, 0, 0, 0,
        0, -1, 0x3ff0000000000000L, 0};

    private static final long[] ONE_OF_EACH = {
        5, 4, 3, 0, 0, 4, 29, 0, 5,
        0, 0, 2, -1, -1, 0, 1, 1,  3, 29, 0,
        1, 0, 1, -1, -1, -1, 1, 1,  3, 29, 0,
        2, 0, 2, 50, -1, -1, 1, 1,  3, 29, 0,
        3, 0, 1, -1, -1, 0, 1, 0,
        0, 1, 5, -1, -1, 0, 0, 0,  3, 29, 0,
        1, 4, 3, 0, 0, 0,  0, 1, 0, 1, 0, 0,  1, 0, 0, 0, 1, 0,  1, 0, 0, 0, 0, 0,  1, 0, 0, 0, 0, 0,
        3, 0, 0, 0};

    private static final long[] ANSWERED = {
        5, 5, 0, -1, 1, 4, 27, 4, 6,
        0, 0, 2, -1, 42, 42, 1, 0,  1, 27, 0,
        1, 0, 1, -1, 1, -1, 1, 0,  1, 25, 42,
        2, 0, 2, 50, 50, -1, 1, 0,  1, 31, 42,
        3, 0, 1, -1, -1, 42, 1, 0,
        0, 1, 5, -1, 12345, 12345, 1, 0,  1, 27, 42,
        1, 4, 0, 0, 0, 0,  1, 1, 0, 1, 0, 0,  0, 0, 0, 0, 1, 1,  1, 0, 0, 0, 0, 0,  1, 0, 0, 0, 0, 0,
        0, 0, 0x3ff0000000000000L, 7, '0', '=', '7', ',', '1', '=', '0'};

    private static void dueDigest(String what, TickForms x, String buffer) {
        Check.due(what, Forms.hashOf(x, buffer), x.digest());
    }

    private static void dueOthers(String what, TickForms x, TickForms y) {
        Check.same(what, "true", "" + (x.digest() != y.digest()));
    }

    private static void digest() {
        Doc.section("Promise 21: digest")
            .says("Computes a hash of the whole state.", () -> {
                Check.due("a new form", Forms.hash(NEW_FORM), new TickForms().digest());
                Check.due("one of each", Forms.hash(ONE_OF_EACH), Forms.oneOfEach().digest());
                Check.due("with answers", Forms.hash(ANSWERED), Forms.answered().digest());
            })
            .says("The hash starts at 3389.", () -> {
                long last = 3389;
                for (long v : NEW_FORM) {
                    last = 31 * last + v;
                }
                Check.due("a new form", last, new TickForms().digest());
                dueDigest("sixteen combs", Forms.combs(16), "");
            })
            .says("For each value v of the following list, in order, the hash becomes 31 * hash + v, "
                + "in long arithmetic with overflow.", () -> {
                    Check.due("the values in their order", Forms.hash(ANSWERED),
                        Forms.answered().digest());
                    TickForms x = Forms.full();
                    String text = "012345678901234567890123456789012345678901234567890123456789";
                    for (int b = 0; b < 12; b++) {
                        x.answer(b, b % 10);
                        dueDigest("a full form", x, text);
                    }
                })
            .says("The values are: count(0) to count(8);", () -> {
                for (int calls = 0; calls <= 8; calls++) {
                    TickForms x = Forms.combs(calls);
                    dueDigest("boxes, and saved states", x, "");
                    x.clear();
                    dueDigest("a saved state more", x, "");
                }
                TickForms fresh = new TickForms();
                fresh.clear();
                dueOthers("a saved state is told", fresh, new TickForms());
            })
            .says("for each box its numbers 0 to 7,", () -> {
                TickForms x = Forms.combs(1);
                TickForms y = new TickForms();
                y.comb(0, 2);
                dueOthers("the teeth", x, y);
                dueDigest("one tooth", x, "");
                dueDigest("two teeth", y, "");
                TickForms z = new TickForms();
                z.skip(0, 1, 0);
                TickForms w = new TickForms();
                w.skip(0, 1, 99);
                dueOthers("the limit", z, w);
                dueDigest("the limit 99", w, "");
            })
            .says("and ifAnswered with NONE and 0 to 2 if it is no total;", () -> {
                TickForms x = new TickForms();
                x.total(0, 0);
                dueDigest("a total alone", x, "");
                x.total(0, 1);
                dueDigest("two totals", x, "");
                x.tick(0, 1);
                x.comb(1, 5);
                x.total(4, 8);
                x.answer(2, 1);
                x.answer(3, 99999);
                dueDigest("totals among others", x, "");
                dueDigest("sixteen boxes, the last a total", typedFull(), "");
            })
            .says("for each part its numbers 0 to 5;", () -> {
                TickForms x = new TickForms();
                x.tick(0, NONE);
                TickForms y = new TickForms();
                y.tick(4, NONE);
                dueOthers("the part of a box", x, y);
                dueDigest("the part 4", y, "");
                TickForms z = new TickForms();
                z.skip(0, 4, 0);
                z.answer(0, 0);
                dueDigest("the part 4 is skipped", z, "");
            })
            .says("shortest; mostCarried;", () -> {
                for (int combs = 0; combs <= 15; combs++) {
                    TickForms x = Forms.combs(combs);
                    dueDigest("so many are wanted", x, "");
                    x.total(0, combs == 0 ? 0 : 1 << combs - 1);
                    dueDigest("the last is carried", x, "");
                }
            })
            .says("the bits of filled (as Double.doubleToLongBits);", () -> {
                for (int all = 1; all <= 16; all++) {
                    TickForms x = Forms.combs(all);
                    for (int given = 0; given < all; given++) {
                        dueDigest(given + " of " + all, x, "");
                        x.answer(given, given % 10);
                    }
                    dueDigest("all of " + all, x, "");
                }
            })
            .says("the length of the buffer and each of its character codes.", () -> {
                String[] texts = {"", "!", "~", "01", "10", "0=1,", "~~~~~~~~~~~~~~~~~~~~"
                    + "~~~~~~~~~~~~~~~~~~~~~~~~~~~~~~~~~~~~~~!0"};
                for (String text : texts) {
                    dueDigest("the buffer " + text, Forms.typed(text), text);
                }
                TickForms x = Forms.typed("01");
                x.clearBuffer();
                dueDigest("cleared", x, "");
                x.append('1');
                dueDigest("only what was typed since", x, "1");
            })
            .says("Returns the hash.", () -> {
                TickForms x = Forms.answered();
                Check.due("the hash", Forms.hash(ANSWERED), x.digest());
                Check.due("the hash again", Forms.hash(ANSWERED), x.digest());
                x.clearBuffer();
                dueOthers("another state", x, Forms.answered());
            })
            .end();
    }

    private static TickForms typedFull() {
        TickForms x = Forms.full();
        x.clearBuffer();
        return x;
    }
}
