import java.util.ArrayDeque;
import java.util.ArrayList;
import java.util.Deque;
import java.util.List;
import java.util.regex.Matcher;
import java.util.regex.Pattern;

/**
 * The document told a second time, with the Java library and without a thought for cost, so that
 * random runs of TickForms have something to be compared with.
 */
final class Model {
    static final int NONE = -1;
    private static final String ANSWER = "(?:[0-9]|1[0-5])=(?:0|[1-9][0-9]{0,4}|-)";
    private static final Pattern ANSWERS = Pattern.compile(ANSWER + "(?:," + ANSWER + ")*");

    /** What a box is, and its answer; a new one is made for each change. */
    private record Box(int kind, int part, int setting, int limit, int answer) {
        Box with(int value) {
            return new Box(kind, part, setting, limit, value);
        }

        boolean wantsIfOpen() {
            return kind != 3 && answer == NONE;
        }

        boolean fits(int value) {
            switch (kind) {
                case 0:
                    return value == NONE || value >= 0 && ("" + value).length() <= setting;
                case 1:
                    return value == NONE || value == 0 || value == 1;
                case 2:
                    return value == NONE || value >= 0 && value <= 99;
                default:
                    return value == NONE;
            }
        }
    }

    private List<Box> boxes = new ArrayList<>();
    private final Deque<List<Box>> saved = new ArrayDeque<>();
    private String buffer = "";

    // ---- the rules of the terms

    private static boolean open(List<Box> all, int part) {
        if (part == 0) {
            return true;
        }
        boolean ticks = all.stream().anyMatch(b -> b.kind == 1 && b.setting == part);
        boolean ticked = all.stream().anyMatch(b -> b.kind == 1 && b.setting == part
            && b.answer == 1 && open(all, b.part));
        return (ticked || !ticks) && !skipped(all, part);
    }

    private static boolean skipped(List<Box> all, int part) {
        return all.stream().anyMatch(b -> b.kind == 2 && b.setting == part && b.answer != NONE
            && b.answer >= b.limit && open(all, b.part));
    }

    private static boolean wants(List<Box> all, int box) {
        return all.get(box).wantsIfOpen() && open(all, all.get(box).part);
    }

    private static int wanting(List<Box> all) {
        int number = 0;
        for (int b = 0; b < all.size(); b++) {
            number += wants(all, b) ? 1 : 0;
        }
        return number;
    }

    private static int mask(List<Box> all) {
        int mask = 0;
        for (int p = 0; p < 5; p++) {
            mask |= open(all, p) ? 1 << p : 0;
        }
        return mask;
    }

    private static int value(List<Box> all, int box) {
        Box it = all.get(box);
        if (it.kind == 0) {
            return it.answer == NONE ? 0 : it.answer;
        }
        if (it.kind != 3) {
            return NONE;
        }
        long sum = 0;
        for (int b = 0; b < box; b++) {
            if ((it.setting & 1 << b) != 0 && open(all, all.get(b).part)) {
                sum += value(all, b);
            }
        }
        return (int) Math.min(sum, 999999);
    }

    // ---- calls that change

    private void save() {
        saved.addLast(boxes);
        if (saved.size() > 6) {
            saved.removeFirst();
        }
        boxes = new ArrayList<>(boxes);
    }

    private int add(int kind, int part, int setting, int limit) {
        if (boxes.size() == 16) {
            throw new IllegalStateException();
        }
        save();
        boxes.add(new Box(kind, part, setting, limit, NONE));
        return boxes.size() - 1;
    }

    private static void part(int part, int last) {
        if (part < 0 || part > last) {
            throw new IndexOutOfBoundsException();
        }
    }

    private static void need(boolean good) {
        if (!good) {
            throw new IllegalArgumentException();
        }
    }

    private void needBox(int box) {
        if (box < 0 || box >= boxes.size()) {
            throw new IndexOutOfBoundsException();
        }
    }

    int comb(int part, int teeth) {
        part(part, 4);
        need(teeth > 0 && teeth < 6);
        return add(0, part, teeth, NONE);
    }

    int tick(int part, int opens) {
        part(part, 4);
        need(opens == NONE || opens > part && opens < 5);
        return add(1, part, opens, NONE);
    }

    int skip(int part, int closes, int limit) {
        part(part, 3);
        need(closes > part && closes < 5 && limit >= 0 && limit < 100);
        return add(2, part, closes, limit);
    }

    int total(int part, int mask) {
        part(part, 4);
        need(mask >= 0 && mask < 65536);
        for (int b = 0; b < 16; b++) {
            if ((mask & 1 << b) != 0) {
                need(b < boxes.size() && (boxes.get(b).kind == 0 || boxes.get(b).kind == 3));
            }
        }
        return add(3, part, mask, NONE);
    }

    int drop() {
        if (boxes.isEmpty()) {
            throw new IllegalStateException();
        }
        save();
        return boxes.remove(boxes.size() - 1).kind;
    }

    int answer(int box, int value) {
        needBox(box);
        need(boxes.get(box).fits(value));
        save();
        boxes.set(box, boxes.get(box).with(value));
        return wanting(boxes);
    }

    int clear() {
        int had = (int) boxes.stream().filter(b -> b.answer != NONE).count();
        save();
        boxes.replaceAll(b -> b.with(NONE));
        return had;
    }

    int append(int code) {
        need(code >= 33 && code <= 126);
        if (buffer.length() == 60) {
            throw new IllegalStateException();
        }
        buffer += (char) code;
        return buffer.length();
    }

    int clearBuffer() {
        int length = buffer.length();
        buffer = "";
        return length;
    }

    /** A text can go on to answers if it is some, or if the matcher ran out of signs. */
    int firstError() {
        for (int i = 0; i < buffer.length(); i++) {
            Matcher matcher = ANSWERS.matcher(buffer.substring(0, i + 1));
            if (!matcher.matches() && !matcher.hitEnd()) {
                return i;
            }
        }
        return buffer.length();
    }

    int fill() {
        need(ANSWERS.matcher(buffer).matches());
        save();
        int given = 0;
        for (String text : buffer.split(",")) {
            String[] sides = text.split("=");
            int box = Integer.parseInt(sides[0]);
            int value = sides[1].equals("-") ? NONE : Integer.parseInt(sides[1]);
            if (box >= boxes.size() || !boxes.get(box).fits(value)) {
                break;
            }
            boxes.set(box, boxes.get(box).with(value));
            given++;
        }
        buffer = "";
        return given;
    }

    int undo() {
        if (saved.isEmpty()) {
            throw new IllegalStateException();
        }
        boxes = saved.removeLast();
        return saved.size();
    }

    // ---- looks

    int box(int box, int what) {
        needBox(box);
        need(what >= 0 && what < 8);
        Box it = boxes.get(box);
        int[] all = {it.kind, it.part, it.setting, it.limit, it.answer, value(boxes, box),
            open(boxes, it.part) ? 1 : 0, wants(boxes, box) ? 1 : 0};
        return all[what];
    }

    int partLook(int part, int what) {
        part(part, 4);
        need(what >= 0 && what < 6);
        int[] all = new int[6];
        for (int b = 0; b < boxes.size(); b++) {
            Box it = boxes.get(b);
            all[1] += it.part == part ? 1 : 0;
            all[2] += it.part == part && wants(boxes, b) ? 1 : 0;
            all[3] += it.kind == 1 && it.setting == part ? 1 : 0;
            all[4] += it.kind == 2 && it.setting == part ? 1 : 0;
        }
        all[0] = open(boxes, part) ? 1 : 0;
        all[5] = skipped(boxes, part) ? 1 : 0;
        return all[what];
    }

    int count(int what) {
        need(what >= 0 && what < 9);
        int[] all = new int[9];
        all[3] = NONE;
        for (int b = boxes.size() - 1; b >= 0; b--) {
            all[1] += open(boxes, boxes.get(b).part) ? 1 : 0;
            all[3] = wants(boxes, b) ? b : all[3];
            all[7] += boxes.get(b).answer != NONE ? 1 : 0;
        }
        all[0] = boxes.size();
        all[2] = wanting(boxes);
        all[4] = all[2] == 0 ? 1 : 0;
        all[5] = Integer.bitCount(mask(boxes));
        all[6] = mask(boxes);
        all[8] = saved.size();
        return all[what];
    }

    int ifAnswered(int box, int value, int what) {
        needBox(box);
        need(boxes.get(box).fits(value) && what >= 0 && what < 3);
        List<Box> then = new ArrayList<>(boxes);
        then.set(box, then.get(box).with(value));
        int last = NONE;
        for (int b = 0; b < then.size(); b++) {
            last = then.get(b).kind == 3 ? b : last;
        }
        return what == 0 ? wanting(then) : what == 1 ? mask(then)
            : last == NONE ? NONE : value(then, last);
    }

    // ---- the fewest answers, on two ways

    /** Answers the first box that wants an answer in all ways that matter, till none does. */
    int shortest() {
        return fewest(boxes, 0, 99);
    }

    private static int fewest(List<Box> all, int given, int best) {
        if (given >= best) {
            return best;
        }
        int at = firstWantingByPart(all);
        if (at == NONE) {
            return given;
        }
        int least = best;
        for (int value : ways(all.get(at))) {
            List<Box> then = new ArrayList<>(all);
            then.set(at, then.get(at).with(value));
            least = Math.min(least, fewest(then, given + 1, least));
        }
        return least;
    }

    /** By part, since no answer in a higher part changes what is open in a lower one. */
    private static int firstWantingByPart(List<Box> all) {
        for (int p = 0; p < 5; p++) {
            for (int b = 0; b < all.size(); b++) {
                if (all.get(b).part == p && wants(all, b)) {
                    return b;
                }
            }
        }
        return NONE;
    }

    private static int[] ways(Box box) {
        return box.kind == 0 ? new int[] {0} : box.kind == 1 ? new int[] {0, 1} : new int[] {0, 99};
    }

    /** The promise word by word: all sets of empty boxes, open or not, with all ways to answer. */
    int shortestByAllSets() {
        return allSets(new ArrayList<>(boxes), 0, 0);
    }

    private static int allSets(List<Box> all, int from, int given) {
        if (from == all.size()) {
            return wanting(all) == 0 ? given : 99;
        }
        int least = allSets(all, from + 1, given);
        if (all.get(from).wantsIfOpen()) {
            for (int value : ways(all.get(from))) {
                all.set(from, all.get(from).with(value));
                least = Math.min(least, allSets(all, from + 1, given + 1));
                all.set(from, all.get(from).with(NONE));
            }
        }
        return least;
    }

    /** How many boxes could be answered: what allSets costs grows with it. */
    int empty() {
        return (int) boxes.stream().filter(Box::wantsIfOpen).count();
    }

    // ---- the rest

    private boolean carried(int box, int total) {
        Box it = boxes.get(total);
        if (it.kind != 3) {
            return false;
        }
        for (int b = 0; b < total; b++) {
            if ((it.setting & 1 << b) != 0 && (b == box || carried(box, b))) {
                return true;
            }
        }
        return false;
    }

    int mostCarried() {
        int best = NONE;
        int most = 0;
        for (int b = 0; b < boxes.size(); b++) {
            int totals = 0;
            for (int t = 0; t < boxes.size(); t++) {
                totals += carried(b, t) ? 1 : 0;
            }
            if (totals > most) {
                best = b;
                most = totals;
            }
        }
        return best;
    }

    double filled() {
        List<Box> open = boxes.stream().filter(b -> b.kind != 3 && open(boxes, b.part)).toList();
        long answered = open.stream().filter(b -> b.answer != NONE).count();
        return open.isEmpty() ? 1.0 : (double) answered / open.size();
    }

    long digest() {
        List<Long> values = new ArrayList<>();
        for (int i = 0; i < 9; i++) {
            values.add((long) count(i));
        }
        for (int b = 0; b < boxes.size(); b++) {
            for (int i = 0; i < 8; i++) {
                values.add((long) box(b, i));
            }
            for (int i = 0; i < 3 && boxes.get(b).kind != 3; i++) {
                values.add((long) ifAnswered(b, NONE, i));
            }
        }
        for (int p = 0; p < 5; p++) {
            for (int i = 0; i < 6; i++) {
                values.add((long) partLook(p, i));
            }
        }
        values.add((long) shortest());
        values.add((long) mostCarried());
        values.add(Double.doubleToLongBits(filled()));
        values.add((long) buffer.length());
        buffer.chars().forEach(c -> values.add((long) c));
        long hash = 3389;
        for (long v : values) {
            hash = 31 * hash + v;
        }
        return hash;
    }
}
