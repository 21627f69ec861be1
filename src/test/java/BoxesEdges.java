/** The sentences of the promises 1 to 8: a new object, boxes, answers. */
final class BoxesEdges {
    private static final int NONE = Forms.NONE;
    private static final int LEAST_INT = Forms.LEAST_INT;
    private static final int MOST_INT = Forms.MOST_INT;
    private static final Class<?> NO_SUCH = Forms.NO_SUCH;
    private static final Class<?> UNFIT = Forms.UNFIT;
    private static final Class<?> NOT_NOW = Forms.NOT_NOW;
    private static final int[] NO_PARTS = {-1, 5, LEAST_INT, MOST_INT};

    private BoxesEdges() {
    }

    static void run() {
        newObject();
        comb();
        tick();
        skip();
        total();
        drop();
        answer();
        clear();
    }

    private static void dueBox(TickForms x, int box, int... numbers) {
        for (int what = 0; what < numbers.length; what++) {
            Check.due("box " + box + " " + what, numbers[what], x.box(box, what));
        }
    }

    private static void newObject() {
        Doc.section("Promise 1: A new object")
            .says("Creates a form without boxes,", () -> {
                TickForms x = new TickForms();
                int[] counts = {0, 0, 0, NONE, 1, 5, 31, 0, 0};
                for (int what = 0; what < counts.length; what++) {
                    Check.due("count " + what, counts[what], x.count(what));
                }
                for (int p = 0; p < 5; p++) {
                    Check.due("in part " + p, 0, x.part(p, 1));
                }
                Check.refused(x, "a box 0", NO_SUCH, () -> x.box(0, 0));
                Check.refused(x, "an answer", NO_SUCH, () -> x.answer(0, NONE));
                Check.refused(x, "a trial", NO_SUCH, () -> x.ifAnswered(0, NONE, 0));
                Check.refused(x, "a box to drop", NOT_NOW, x::drop);
                Check.refused(x, "a state to come back to", NOT_NOW, x::undo);
                Check.refused(x, "a mask with a box", UNFIT, () -> x.total(0, 1));
                x.comb(0, 1);
                Check.due("another object", 0, new TickForms().count(0));
            })
            .says("with an empty buffer.", () -> {
                TickForms x = new TickForms();
                Check.due("error", 0, x.firstError());
                Check.refused(x, "fill", UNFIT, x::fill);
                Check.due("length", 0, x.clearBuffer());
                Check.due("the first character", 1, x.append('1'));
                Check.due("another object", 0, new TickForms().clearBuffer());
            })
            .end();
    }

    /** The first box, and the sixteenth behind fifteen combs, as the looks tell them. */
    private static void addsFirstAndLast(Forms.Act add, int... numbers) {
        TickForms first = new TickForms();
        add.on(first);
        Check.due("boxes", 1, first.count(0));
        dueBox(first, 0, numbers);
        TickForms last = Forms.combs(15);
        add.on(last);
        Check.due("boxes", 16, last.count(0));
        dueBox(last, 15, numbers);
        dueBox(last, 14, 0, 0, 1, NONE, NONE, 0, 1, 1);
    }

    private static void numbersFirstAndLast(Forms.Act add) {
        TickForms x = new TickForms();
        Check.due("the first", 0, add.on(x));
        Check.due("the second", 1, add.on(x));
        x.drop();
        Check.due("a dropped one's number again", 1, add.on(x));
        x.undo();
        Check.due("an undone one's number again", 1, add.on(x));
        Check.due("the sixteenth", 15, add.on(Forms.combs(15)));
    }

    private static void refusedWhenFull(Forms.Act add) {
        Forms.refused(() -> Forms.combs(16), "a 17th", NOT_NOW, add);
        Forms.refused(Forms::full, "a 17th", NOT_NOW, add);
        TickForms x = Forms.combs(15);
        Check.due("a 16th", 15, add.on(x));
        x.drop();
        Check.due("a 16th after drop", 15, add.on(x));
        x.undo();
        Check.due("a 16th after undo", 15, add.on(x));
        Check.refused(x, "a 17th", NOT_NOW, () -> add.on(x));
    }

    private static void comb() {
        Doc.section("Promise 2: comb")
            .says("Adds a comb.",
                () -> addsFirstAndLast(x -> x.comb(3, 2), 0, 3, 2, NONE, NONE, 0, 1, 1))
            .says("Undoable.", () -> Forms.undoable(x -> x.comb(0, 1), x -> x.comb(0, 1),
                x -> x.comb(0, 0)))
            .says("`part`: 0 to 4", () -> {
                for (int part = 0; part <= 4; part++) {
                    TickForms x = new TickForms();
                    x.comb(part, 1);
                    dueBox(x, 0, 0, part);
                }
            })
            .says("`teeth`: 1 to 5", () -> {
                for (int teeth = 1; teeth <= 5; teeth++) {
                    TickForms x = new TickForms();
                    x.comb(0, teeth);
                    dueBox(x, 0, 0, 0, teeth);
                }
            })
            .says("Returns its number.", () -> numbersFirstAndLast(x -> x.comb(0, 1)))
            .says("Throws `IndexOutOfBoundsException` if there is no such part", () -> {
                for (int part : NO_PARTS) {
                    Forms.refused(TickForms::new, "part " + part, NO_SUCH, x -> x.comb(part, 1));
                }
            })
            .says("Throws `IllegalArgumentException` if teeth is out of range", () -> {
                for (int teeth : new int[] {0, 6, -1, LEAST_INT, MOST_INT}) {
                    Forms.refused(TickForms::new, "teeth " + teeth, UNFIT, x -> x.comb(0, teeth));
                }
            })
            .says("Throws `IllegalStateException` if there are 16 boxes",
                () -> refusedWhenFull(x -> x.comb(0, 1)))
            .end();
    }

    private static void tick() {
        Doc.section("Promise 3: tick")
            .says("Adds a tick.",
                () -> addsFirstAndLast(x -> x.tick(1, 3), 1, 1, 3, NONE, NONE, NONE, 1, 1))
            .says("Undoable.", () -> Forms.undoable(x -> x.comb(0, 1), x -> x.tick(0, 1),
                x -> x.tick(0, 0)))
            .says("`part`: 0 to 4", () -> {
                for (int part = 0; part <= 4; part++) {
                    TickForms x = new TickForms();
                    x.tick(part, NONE);
                    dueBox(x, 0, 1, part);
                }
            })
            .says("`opens`: the part that it can open, greater than its own, at most 4; NONE for "
                + "none", () -> {
                    for (int part = 0; part <= 4; part++) {
                        TickForms x = new TickForms();
                        x.tick(part, NONE);
                        dueBox(x, 0, 1, part, NONE);
                        for (int opens = part + 1; opens <= 4; opens++) {
                            x.tick(part, opens);
                            dueBox(x, opens - part, 1, part, opens);
                        }
                    }
                })
            .says("Returns its number.", () -> numbersFirstAndLast(x -> x.tick(0, 1)))
            .says("Throws `IndexOutOfBoundsException` if there is no such part", () -> {
                for (int part : NO_PARTS) {
                    Forms.refused(TickForms::new, "part " + part, NO_SUCH, x -> x.tick(part, NONE));
                    Forms.refused(TickForms::new, "part " + part, NO_SUCH, x -> x.tick(part, 4));
                }
            })
            .says("Throws `IllegalArgumentException` if opens is out of range", () -> {
                for (int part = 0; part <= 4; part++) {
                    int from = part;
                    for (int opens : new int[] {-2, 0, part - 1, part, 5, LEAST_INT, MOST_INT}) {
                        if (opens != NONE) {
                            Forms.refused(TickForms::new, "part " + part + " opens " + opens, UNFIT,
                                x -> x.tick(from, opens));
                        }
                    }
                }
            })
            .says("Throws `IllegalStateException` if there are 16 boxes", () -> {
                refusedWhenFull(x -> x.tick(0, 1));
                refusedWhenFull(x -> x.tick(4, NONE));
            })
            .end();
    }

    private static void skip() {
        Doc.section("Promise 4: skip")
            .says("Adds a skip.",
                () -> addsFirstAndLast(x -> x.skip(1, 3, 7), 2, 1, 3, 7, NONE, NONE, 1, 1))
            .says("Undoable.", () -> Forms.undoable(x -> x.comb(0, 1), x -> x.skip(0, 1, 0),
                x -> x.skip(0, 0, 0)))
            .says("`part`: 0 to 3", () -> {
                for (int part = 0; part <= 3; part++) {
                    TickForms x = new TickForms();
                    x.skip(part, 4, 0);
                    dueBox(x, 0, 2, part);
                }
            })
            .says("`closes`: the part that it can close, greater than its own, at most 4", () -> {
                for (int part = 0; part <= 3; part++) {
                    TickForms x = new TickForms();
                    for (int closes = part + 1; closes <= 4; closes++) {
                        x.skip(part, closes, 1);
                        dueBox(x, closes - part - 1, 2, part, closes);
                    }
                }
            })
            .says("`limit`: 0 to 99", () -> {
                for (int limit : new int[] {0, 1, 98, 99}) {
                    TickForms x = new TickForms();
                    x.skip(0, 1, limit);
                    dueBox(x, 0, 2, 0, 1, limit);
                }
            })
            .says("Returns its number.", () -> numbersFirstAndLast(x -> x.skip(0, 1, 5)))
            .says("Throws `IndexOutOfBoundsException` if part is not 0 to 3", () -> {
                for (int part : new int[] {-1, 4, 5, LEAST_INT, MOST_INT}) {
                    Forms.refused(TickForms::new, "part " + part, NO_SUCH, x -> x.skip(part, 4, 0));
                }
            })
            .says("Throws `IllegalArgumentException` if closes or limit is out of range", () -> {
                for (int part = 0; part <= 3; part++) {
                    int from = part;
                    for (int closes : new int[] {-2, NONE, 0, part, 5, LEAST_INT, MOST_INT}) {
                        Forms.refused(TickForms::new, "part " + part + " closes " + closes, UNFIT,
                            x -> x.skip(from, closes, 50));
                    }
                    for (int limit : new int[] {-1, 100, LEAST_INT, MOST_INT}) {
                        Forms.refused(TickForms::new, "part " + part + " limit " + limit, UNFIT,
                            x -> x.skip(from, 4, limit));
                    }
                }
            })
            .says("Throws `IllegalStateException` if there are 16 boxes", () -> {
                refusedWhenFull(x -> x.skip(0, 1, 0));
                refusedWhenFull(x -> x.skip(3, 4, 99));
            })
            .end();
    }

    private static void total() {
        Doc.section("Promise 5: total")
            .says("Adds a total.",
                () -> addsFirstAndLast(x -> x.total(2, 0), 3, 2, 0, NONE, NONE, 0, 1, 0))
            .says("Undoable.", () -> Forms.undoable(x -> x.comb(0, 1), x -> x.total(0, 1),
                x -> x.total(0, 2)))
            .says("`part`: 0 to 4", () -> {
                for (int part = 0; part <= 4; part++) {
                    TickForms x = new TickForms();
                    x.total(part, 0);
                    dueBox(x, 0, 3, part);
                }
            })
            .says("`boxes`: a mask of boxes, 0 to 65535, with the bit b for the box b",
                BoxesEdges::masks)
            .says("Returns its number.", () -> {
                numbersFirstAndLast(x -> x.total(0, 0));
                numbersFirstAndLast(x -> x.total(0, (1 << x.count(0)) - 1));
            })
            .says("Throws `IndexOutOfBoundsException` if there is no such part", () -> {
                for (int part : NO_PARTS) {
                    Forms.refused(TickForms::new, "part " + part, NO_SUCH, x -> x.total(part, 0));
                }
            })
            .says("Throws `IllegalArgumentException` if boxes is out of range,", () -> {
                for (int mask : new int[] {-1, -65536, 65536, 65537, LEAST_INT, MOST_INT}) {
                    Forms.refused(() -> Forms.combs(1), "mask " + mask, UNFIT, x -> x.total(0, mask));
                    Forms.refused(() -> Forms.combs(16), "mask " + mask, UNFIT,
                        x -> x.total(0, mask));
                }
            })
            .says("or has a box that is not there,", BoxesEdges::masksOfNoBox)
            .says("or is neither a comb nor a total", () -> {
                for (int bit = 0; bit < 15; bit++) {
                    int number = bit;
                    Forms.refused(() -> behindCombs(number, true), "a tick as " + bit, UNFIT,
                        x -> x.total(0, 1 << number));
                    Forms.refused(() -> behindCombs(number, false), "a skip among others, as " + bit,
                        UNFIT, x -> x.total(0, (2 << number) - 1));
                }
            })
            .says("Throws `IllegalStateException` if there are 16 boxes", () -> {
                refusedWhenFull(x -> x.total(0, 0));
                refusedWhenFull(x -> x.total(0, 4095));
                Forms.refused(() -> Forms.combs(16), "the lower ones", NOT_NOW,
                    x -> x.total(0, 32767));
                Forms.refused(() -> Forms.combs(16), "all the bits", NOT_NOW, x -> x.total(0, 65535));
            })
            .end();
    }

    private static TickForms behindCombs(int combs, boolean tick) {
        TickForms x = Forms.combs(combs);
        if (tick) {
            x.tick(0, NONE);
        } else {
            x.skip(0, 1, 0);
        }
        return x;
    }

    private static void masks() {
        TickForms x = Forms.combs(15);
        for (int b = 0; b < 15; b++) {
            x.answer(b, b % 9 + 1);
        }
        for (int b = 0; b < 15; b++) {
            x.total(0, 1 << b);
            Check.due("the mask of box " + b, 1 << b, x.box(15, 2));
            Check.due("the value of box " + b, b % 9 + 1, x.box(15, 5));
            x.drop();
        }
        x.total(0, 32767);
        Check.due("all the lower boxes", 32767, x.box(15, 2));
        x.drop();
        x.total(0, 0);
        Check.due("none", 0, x.box(15, 2));
    }

    private static void masksOfNoBox() {
        Forms.refused(TickForms::new, "the box 0 of none", UNFIT, x -> x.total(0, 1));
        for (int boxes = 1; boxes <= 15; boxes++) {
            int number = boxes;
            Forms.refused(() -> Forms.combs(number), "its own number " + boxes, UNFIT,
                x -> x.total(0, 1 << number));
            Forms.refused(() -> Forms.combs(number), "the box 15 beside the box 0", UNFIT,
                x -> x.total(0, 32769));
        }
        Forms.refused(() -> {
            TickForms x = Forms.combs(3);
            x.drop();
            return x;
        }, "a dropped comb", UNFIT, x -> x.total(0, 4));
        Forms.refused(() -> {
            TickForms x = Forms.combs(3);
            x.undo();
            return x;
        }, "an undone comb", UNFIT, x -> x.total(0, 4));
    }

    private static void drop() {
        Doc.section("Promise 6: drop")
            .says("Drops the last box.", () -> {
                TickForms x = Forms.combs(16);
                for (int left = 15; left >= 0; left--) {
                    x.answer(left, 7);
                    x.drop();
                    int gone = left;
                    Check.due("boxes left", left, x.count(0));
                    Check.refused(x, "the dropped one", NO_SUCH, () -> x.box(gone, 0));
                }
                x.comb(0, 1);
                Check.due("a new one is empty", NONE, x.box(0, 4));
                nothingStaysOfADroppedBox();
                TickForms y = Forms.answered();
                y.drop();
                dueBox(y, 0, 0, 0, 2, NONE, 42, 42, 1, 0);
                dueBox(y, 3, 3, 0, 1, NONE, NONE, 42, 1, 0);
            })
            .says("Undoable.", () -> {
                Forms.undoable(x -> x.comb(0, 1), TickForms::drop, x -> x.comb(5, 1));
                TickForms x = Forms.combs(1);
                x.answer(0, 7);
                x.drop();
                x.undo();
                Check.due("the last one is back, with its answer", 7, x.box(0, 4));
            })
            .says("Returns its kind.", () -> {
                TickForms x = new TickForms();
                x.comb(0, 1);
                Check.due("a comb alone", 0, x.drop());
                x.tick(0, 1);
                Check.due("a tick alone", 1, x.drop());
                x.skip(0, 1, 0);
                Check.due("a skip alone", 2, x.drop());
                x.total(0, 0);
                Check.due("a total alone", 3, x.drop());
                TickForms y = Forms.full();
                int[] kinds = {3, 3, 2, 1, 0};
                for (int kind : kinds) {
                    Check.due("the last of many", kind, y.drop());
                }
            })
            .says("Throws `IllegalStateException` if there is none", () -> {
                Forms.refused(TickForms::new, "a new form", NOT_NOW, TickForms::drop);
                Forms.refused(() -> {
                    TickForms x = Forms.combs(2);
                    x.drop();
                    x.drop();
                    return x;
                }, "all are dropped", NOT_NOW, TickForms::drop);
                Forms.refused(() -> {
                    TickForms x = Forms.combs(1);
                    x.undo();
                    return x;
                }, "the only one is undone", NOT_NOW, TickForms::drop);
                Check.due("the only one", 0, Forms.combs(1).drop());
            })
            .end();
    }

    /** Also not of one that opened, closed, carried or wanted something. */
    private static void nothingStaysOfADroppedBox() {
        for (int combs : new int[] {0, 1, 14, 15}) {
            String before = Forms.looks(behindPartOne(combs));
            for (int kind = 0; kind < 4; kind++) {
                for (int value = NONE; value <= 1; value++) {
                    TickForms x = behindPartOne(combs);
                    int box = kind == 0 ? x.comb(0, 1) : kind == 1 ? x.tick(0, 1)
                        : kind == 2 ? x.skip(0, 1, 1) : x.total(0, (1 << combs) - 1);
                    if (kind < 3) {
                        x.answer(box, value);
                    }
                    Check.due("kind", kind, x.drop());
                    Check.same("as before it was added", before, Forms.looks(x));
                }
            }
        }
    }

    /** Combs in the part 1, so that what opens or closes it can be seen. */
    private static TickForms behindPartOne(int combs) {
        TickForms x = new TickForms();
        for (int b = 0; b < combs; b++) {
            x.comb(1, 1);
        }
        return x;
    }

    private static void answer() {
        Doc.section("Promise 7: answer")
            .says("Answers a box (also one that is not open).", () -> {
                TickForms x = Forms.oneOfEach();
                Check.due("the part 1 is closed", 0, x.box(4, 6));
                x.answer(4, 99999);
                Check.due("a closed box", 99999, x.box(4, 4));
                x.answer(4, NONE);
                Check.due("a closed box is emptied", NONE, x.box(4, 4));
                x.answer(0, 5);
                Check.due("an open box", 5, x.box(0, 4));
                x.answer(0, 6);
                Check.due("another answer", 6, x.box(0, 4));
                Check.due("the others are as they were", 1, x.count(7));
            })
            .says("Undoable.", () -> Forms.undoable(x -> x.comb(0, 1), x -> x.answer(0, 5),
                x -> x.answer(0, 10)))
            .says("`box`: its number", () -> {
                TickForms x = Forms.combs(16);
                for (int b = 0; b < 16; b++) {
                    x.answer(b, b % 10);
                }
                for (int b = 0; b < 16; b++) {
                    Check.due("box " + b, b % 10, x.box(b, 4));
                }
            })
            .says("`value`: the answer; NONE to empty it (a total can have nothing else)", () -> {
                TickForms x = Forms.oneOfEach();
                int[][] answers = {{0, 0}, {0, 99}, {1, 0}, {1, 1}, {2, 0}, {2, 99}, {4, 99999}};
                for (int[] answer : answers) {
                    x.answer(answer[0], answer[1]);
                    Check.due("the answer", answer[1], x.box(answer[0], 4));
                    x.answer(answer[0], NONE);
                    Check.due("emptied", NONE, x.box(answer[0], 4));
                    x.answer(answer[0], NONE);
                    Check.due("emptied again", NONE, x.box(answer[0], 4));
                }
                x.answer(3, NONE);
                Check.due("a total", NONE, x.box(3, 4));
            })
            .says("Returns how many boxes want an answer then.", BoxesEdges::wantedThen)
            .says("Throws `IndexOutOfBoundsException` if there is no such box", () -> {
                for (int box : new int[] {-1, 0, 16, LEAST_INT, MOST_INT}) {
                    Forms.refused(TickForms::new, "box " + box, NO_SUCH, x -> x.answer(box, NONE));
                }
                for (int boxes = 1; boxes <= 16; boxes++) {
                    int number = boxes;
                    Forms.refused(() -> Forms.combs(number), "box " + boxes, NO_SUCH,
                        x -> x.answer(number, 1));
                    Check.due("the last one", number - 1, Forms.combs(number).answer(number - 1, 1));
                }
                Forms.refused(() -> {
                    TickForms x = Forms.combs(2);
                    x.drop();
                    return x;
                }, "a dropped box", NO_SUCH, x -> x.answer(1, 1));
            })
            .says("Throws `IllegalArgumentException` if value is neither NONE nor an answer that the "
                + "box can have", () -> {
                    int[][] unfit = {{0, 100}, {1, 2}, {2, 100}, {3, 0}, {3, 1}, {4, 100000}};
                    for (int[] answer : unfit) {
                        Forms.refused(Forms::oneOfEach, "too large", UNFIT,
                            x -> x.answer(answer[0], answer[1]));
                    }
                    for (int b = 0; b < 5; b++) {
                        int box = b;
                        for (int value : new int[] {-2, LEAST_INT, MOST_INT}) {
                            Forms.refused(Forms::oneOfEach, "answer " + value, UNFIT,
                                x -> x.answer(box, value));
                        }
                    }
                })
            .end();
    }

    private static void wantedThen() {
        TickForms x = Forms.combs(16);
        Check.due("all", 16, x.answer(7, NONE));
        for (int b = 0; b < 16; b++) {
            Check.due("the others", 15 - b, x.answer(b, 0));
        }
        Check.due("one is emptied", 1, x.answer(15, NONE));
        TickForms y = new TickForms();
        y.tick(0, 1);
        y.comb(1, 1);
        y.comb(1, 1);
        y.total(1, 0);
        Check.due("the part is opened, and wants", 2, y.answer(0, 1));
        Check.due("one is given", 1, y.answer(1, 0));
        Check.due("the part is closed", 0, y.answer(0, 0));
        Check.due("a closed box", 0, y.answer(2, 0));
        Check.due("a total", 0, y.answer(3, NONE));
        Check.due("the tick is emptied", 1, y.answer(0, NONE));
    }

    private static void clear() {
        Doc.section("Promise 8: clear")
            .says("Empties all boxes.", () -> {
                TickForms x = Forms.combs(16);
                x.answer(0, 1);
                x.answer(15, 0);
                x.clear();
                for (int b = 0; b < 16; b++) {
                    Check.due("box " + b, NONE, x.box(b, 4));
                }
                TickForms y = Forms.answered();
                y.answer(1, 0);
                y.clear();
                Check.due("a closed box too", NONE, y.box(4, 4));
                Check.due("the boxes are there", 5, y.count(0));
                Check.due("a total's value", 0, y.box(3, 5));
                Check.due("the buffer stays", 7, y.clearBuffer());
                TickForms z = new TickForms();
                z.clear();
                Check.due("without boxes", 0, z.count(0));
            })
            .says("Undoable.", () -> Forms.undoable(x -> {
                x.comb(0, 1);
                x.answer(0, 3);
            }, TickForms::clear, x -> x.answer(0, -2)))
            .says("Returns how many had an answer.", () -> {
                Check.due("without boxes", 0, new TickForms().clear());
                Check.due("none", 0, Forms.combs(16).clear());
                Check.due("a closed one too, and 0, but no total", 4, Forms.answered().clear());
                TickForms x = Forms.combs(16);
                for (int b = 0; b < 16; b++) {
                    x.answer(b, 0);
                }
                Check.due("all", 16, x.clear());
                Check.due("none is left", 0, x.clear());
                TickForms y = Forms.oneOfEach();
                y.answer(4, 0);
                Check.due("only a closed one", 1, y.clear());
            })
            .end();
    }
}
