import java.util.ArrayList;
import java.util.Arrays;
import java.util.LinkedList;
import java.util.List;
import java.util.Random;
import java.util.regex.Matcher;
import java.util.regex.Pattern;

/**
 * Long runs of calls, the same each time, on a feeder and on a model of the document that is written
 * another way: with lists of sheet objects, whole copies for undo, and a table of what a statement is.
 */
public final class ModelTest {
    private static final int RUNS = 400;
    private static final int CALLS = 250;
    private static final int TEXTS = 20000;
    private static final String[] THROWN = {"", "IllegalArgumentException", "IllegalStateException", "IndexOutOfBoundsException"};

    public static void main(String[] args) {
        texts();
        for (int run = 0; run < RUNS && !Check.hasFailed(); run++) {
            new Run(run).make();
        }
        Check.finish();
    }

    /** Texts with slips against the model's parser, and what the feeder tells of the good ones. */
    private static void texts() {
        Random r = new Random(7);
        for (int k = 0; k < TEXTS && !Check.hasFailed(); k++) {
            String text = Texts.slip(r, Texts.feeder(r, r.nextInt(3) == 0 ? 45 : 5));
            if (text.length() > 700) {
                text = text.substring(0, 700);
            }
            PageFeeder x = new PageFeeder();
            Model m = new Model();
            Check.same("parse of «" + text + "»", Check.parse(x, text), m.parse(text));
            if (k % 50 == 0) {
                compareAll(text, x, m);
            }
        }
    }

    /** All questions that change nothing, each with every argument in and next to its range. */
    private static void compareAll(String what, PageFeeder x, Model m) {
        for (int call = 0; call < Calls.CHANGES; call++) {
            int least = call == Calls.AHEAD ? 99 : -1;
            int greatest = call == Calls.AHEAD ? 302 : call == Calls.BEST ? -1 : 82;
            int step = call == Calls.AHEAD ? 7 : 1;
            for (int a = least; a <= greatest; a += step) {
                for (int b = -1; b < (Calls.hasTwo(call) ? 9 : 0); b++) {
                    compare(what, x, m, call, a, b);
                }
            }
        }
    }

    private static void compare(String what, PageFeeder x, Model m, int call, int a, int b) {
        String want = Calls.model(m, call, a, b);
        String got = Calls.real(x, call, a, b);
        Check.sameText("call " + call + "(" + a + ", " + b + ")", got, want);
        if (!got.equals(want)) {
            System.out.println("this was in " + what);
        }
    }

    /** One run on a fresh object. */
    private static final class Run {
        private final Random r;
        private final PageFeeder x = new PageFeeder();
        private final Model m = new Model();
        private final StringBuilder told = new StringBuilder();

        Run(int number) {
            r = new Random(number);
        }

        void make() {
            feedText();
            for (int k = 0; k < CALLS && !Check.hasFailed(); k++) {
                if (r.nextInt(120) == 0) {
                    feedText();
                }
                int call = r.nextInt(3) == 0 ? r.nextInt(Calls.CHANGES) : Calls.CHANGES + r.nextInt(10);
                int a = Calls.first(r, call, m);
                int b = r.nextInt(call == 22 ? 320 : 9) - (r.nextInt(6) == 0 ? 1 : 0);
                told.append(call).append('(').append(a).append(", ").append(b).append(") ");
                compare(told.toString(), x, m, call, a, b);
            }
            compareAll("the end of " + told, x, m);
        }

        private void feedText() {
            String text = Texts.feeder(r, r.nextInt(4) == 0 ? 45 : 14);
            if (r.nextInt(8) == 0) {
                text = Texts.slip(r, text);
            }
            text = text.length() > 700 ? text.substring(0, text.lastIndexOf(';', 699) + 1) : text;
            told.append('«').append(text).append("» ");
            Check.same("parse in " + told, Check.parse(x, text), m.parse(text));
        }
    }

    /** Texts that are mostly right. */
    private static final class Texts {
        static String feeder(Random r, int most) {
            StringBuilder b = new StringBuilder("feeder 300 100;");
            int count = r.nextInt(most);
            boolean limits = false;
            int sheets = 0;
            for (int k = 0; k < count; k++) {
                int kind = r.nextInt(20);
                if (kind == 0 && !limits) {
                    limits = true;
                    b.append("limits ").append(101 + r.nextInt(200)).append(' ').append(r.nextInt(60)).append(' ')
                            .append(r.nextInt(100)).append(' ').append(r.nextInt(30)).append(';');
                } else if (kind == 1 && b.indexOf("simplex") < 0) {
                    b.append("simplex;");
                } else if (kind == 2 && k > 0) {
                    int times = r.nextInt(12) == 0 && sheets > 0 && sheets < 40 ? 40 - sheets : 1 + r.nextInt(4);
                    b.append("again ").append(times).append(';');
                    sheets += times;
                } else {
                    sheets++;
                    b.append(kind < 6 ? "code " + r.nextInt(1000) + " " : "sheet ").append(shape(r));
                    b.append(kind < 6 ? "" : " " + ink(r) + " " + ink(r));
                    b.append(r.nextInt(4) == 0 ? " stuck " + r.nextInt(r.nextInt(4) == 0 ? 401 : 25) : "").append(';');
                }
            }
            return b.toString();
        }

        private static String shape(Random r) {
            int length = r.nextInt(4) == 0 ? 270 + r.nextInt(60) : 300;
            int thick = r.nextInt(4) == 0 ? 30 + r.nextInt(300) : 50 + r.nextInt(90);
            int skew = r.nextInt(3) == 0 ? r.nextInt(100) : r.nextInt(10);
            return length + " " + thick + (r.nextInt(3) == 0 ? "-" : " ") + skew;
        }

        private static int ink(Random r) {
            return r.nextInt(5) == 0 ? r.nextInt(1001) : r.nextInt(14);
        }

        /** Puts slips into a text: signs left out, doubled or put in, a part twice, an early end. */
        static String slip(Random r, String text) {
            String[] parts = {"again 3;", "again 39;", "limits 150 20 30 5;", "simplex;", "-", ";", " ", "\n", "7", "x", "A",
                "stuck 3", "sheet 50 30 0 0 0;", "code 5 50 30 0;", "" + (char) 200, "99999", "abcdefghi", "feeder"};
            StringBuilder b = new StringBuilder(text);
            for (int k = r.nextInt(4); k > 0 && b.length() > 0; k--) {
                int at = r.nextInt(b.length() + 1);
                switch (r.nextInt(5)) {
                    case 0 -> b.setLength(at);
                    case 1 -> b.delete(at, Math.min(b.length(), at + 1 + r.nextInt(3)));
                    case 2 -> b.insert(at, parts[r.nextInt(parts.length)]);
                    case 3 -> b.insert(b.lastIndexOf(";", at) + 1, parts[r.nextInt(parts.length)]);
                    default -> b.insert(at, (char) (32 + r.nextInt(95)));
                }
            }
            return b.toString();
        }
    }

    /** The calls by number, on both sides, the answers as texts. */
    private static final class Calls {
        static final int AHEAD = 7;
        static final int BEST = 8;
        /** The calls from this number on are changes, undo and snapshots. */
        static final int CHANGES = 17;

        static boolean hasTwo(int call) {
            return call == 2 || call == 4 || call == 5 || call == AHEAD;
        }

        /** A first argument that fits the call, now and then one that is out of range. */
        static int first(Random r, int call, Model m) {
            boolean wild = r.nextInt(12) == 0;
            switch (call) {
                case 7: return wild ? 100 + r.nextInt(3) * 100 : 101 + r.nextInt(200);
                case 9: return r.nextInt(83) - 1;
                case 17: return wild ? r.nextInt(43) - 1 : 1 + r.nextInt(3);
                case 21: return wild ? r.nextInt(3) * 500 - 1 : r.nextInt(1000);
                case 22: return wild ? r.nextInt(6) - 1 : r.nextInt(4);
                case 25: case 26: return r.nextInt(4) - 1 & (wild ? -1 : 1);
                default: return r.nextInt(14) - 1;
            }
        }

        static String real(PageFeeder x, int call, int a, int b) {
            try {
                switch (call) {
                    case 0: return "" + x.size(a);
                    case 1: return "" + x.limit(a);
                    case 2: return "" + x.sheet(a, b);
                    case 3: return x.stack(a) + " " + x.path(a);
                    case 4: return "" + x.page(a, b);
                    case 5: return "" + x.job(a, b);
                    case 6: return "" + x.isHalf(a);
                    case 7: return "" + x.ahead(a, b);
                    case 8: return "" + x.bestPercent();
                    case 9: return "" + x.blankFor(a);
                    case 10: return "" + x.account(a);
                    case 11: return "" + x.sheetsAt(a);
                    case 12: return "" + x.meanInk();
                    case 13: case 14: case 15: case 16: return "" + x.next(a);
                    case 17: case 18: return "" + x.feed(a);
                    case 19: return "" + x.putBack();
                    case 20: return "" + x.remove();
                    case 21: return "" + x.endJob(a);
                    case 22: return "" + x.setLimit(a, b);
                    case 23: return a % 2 == 0 ? "" + x.accept() : "" + x.setDuplex(b % 2 == 0);
                    case 24: return "" + x.undo();
                    case 25: return "" + x.saveSnapshot(a);
                    default: return "" + x.restoreSnapshot(a);
                }
            } catch (IllegalArgumentException | IllegalStateException | IndexOutOfBoundsException e) {
                return e.getClass().getSimpleName();
            }
        }

        static String model(Model m, int call, int a, int b) {
            int thrown = m.refusal(call, a, b);
            return thrown > 0 ? THROWN[thrown] : m.answer(call, a, b);
        }
    }

    /** A sheet of the model. */
    private static final class Sheet implements Cloneable {
        int id;
        int length;
        int thick;
        int skew;
        int front;
        int back;
        int code = -1;
        int offset = -1;
        int where;
        boolean half;

        Sheet copy() {
            try {
                return (Sheet) clone();
            } catch (CloneNotSupportedException e) {
                throw new IllegalStateException(e);
            }
        }

        int blanks(int blank) {
            return code >= 0 ? 0 : (front < blank ? 1 : 0) + (back < blank ? 1 : 0);
        }
    }

    /** Everything that changes can change, copied whole. */
    private static final class World {
        List<Sheet> sheets = new ArrayList<>();
        LinkedList<Integer> stack = new LinkedList<>();
        List<Integer> path = new ArrayList<>();
        List<int[]> pages = new ArrayList<>();
        List<Integer> jobs = new ArrayList<>(List.of(-1));
        List<Integer> good = new ArrayList<>();
        int[] limits = {150, 20, 30, 5};
        int[] accounts = new int[9];
        boolean duplex = true;
        int reason;
        int length = 50;
        int thick = 30;

        World copy() {
            World w = new World();
            for (Sheet s : sheets) {
                w.sheets.add(s.copy());
            }
            w.stack.addAll(stack);
            w.path.addAll(path);
            w.pages.addAll(pages);
            w.jobs = new ArrayList<>(jobs);
            w.good.addAll(good);
            w.limits = limits.clone();
            w.accounts = accounts.clone();
            w.duplex = duplex;
            w.reason = reason;
            w.length = length;
            w.thick = thick;
            return w;
        }

        int usual() {
            List<Integer> latest = good.subList(Math.max(0, good.size() - 6), good.size());
            return latest.isEmpty() ? thick : latest.stream().mapToInt(t -> t).sum() / latest.size();
        }

        List<Sheet> nextPick() {
            List<Sheet> pick = new ArrayList<>();
            for (int id : stack) {
                pick.add(sheets.get(id));
                if (sheets.get(id).offset < 0) {
                    break;
                }
            }
            return pick;
        }

        static int thickness(List<Sheet> pick) {
            return pick.stream().mapToInt(s -> s.thick).sum();
        }

        static int lengthOf(List<Sheet> pick) {
            int longest = 0;
            for (int k = 0; k < pick.size(); k++) {
                int start = pick.subList(0, k).stream().mapToInt(s -> s.offset).sum();
                longest = Math.max(longest, start + pick.get(k).length);
            }
            return longest;
        }

        int reasonFor(List<Sheet> pick) {
            if (thickness(pick) * 100 > limits[0] * usual()) {
                return 1;
            }
            if (Math.abs(lengthOf(pick) - length) > limits[1]) {
                return 2;
            }
            return Math.abs(pick.get(0).skew) > limits[2] ? 3 : 0;
        }

        int pagesOf(Sheet s) {
            int sides = s.code >= 0 ? 0 : duplex ? 2 : 1;
            int count = 0;
            for (int side = 0; side < sides; side++) {
                count += (side == 0 ? s.front : s.back) < limits[3] ? 0 : 1;
            }
            return count;
        }

        /** Makes one pick; true if it went through. */
        boolean pick() {
            List<Sheet> pick = nextPick();
            int why = reasonFor(pick);
            accounts[0]++;
            for (Sheet s : pick) {
                stack.removeFirst();
                path.add(s.id);
                s.where = 1;
            }
            if (why > 0) {
                accounts[why]++;
                reason = why;
                pick.get(0).half |= why == 3 && pick.get(0).code < 0;
                return false;
            }
            if (pick.size() == 1) {
                good.add(pick.get(0).thick);
                accounts[4]++;
            }
            through();
            return true;
        }

        int through() {
            int before = pages.size();
            for (int id : path) {
                sheets.get(id).where = 5;
            }
            Sheet s = sheets.get(path.get(0));
            accounts[5] += s.half ? 1 : 0;
            s.half = false;
            if (s.code >= 0) {
                s.where = 4;
                jobs.add(s.code);
            } else {
                for (int side = 0; side < (duplex ? 2 : 1); side++) {
                    if ((side == 0 ? s.front : s.back) >= limits[3]) {
                        pages.add(new int[] {s.id, side, jobs.size() - 1});
                    }
                }
                s.where = pages.size() > before ? 2 : 3;
            }
            path.clear();
            reason = 0;
            return pages.size() - before;
        }

        int removePath() {
            int count = path.size();
            for (int id : path) {
                accounts[6] += sheets.get(id).half ? 1 : 0;
                sheets.get(id).half = false;
                sheets.get(id).where = 6;
            }
            path.clear();
            reason = 0;
            return count;
        }

        int putBackPath() {
            int count = path.size();
            for (int k = count - 1; k >= 0; k--) {
                Sheet s = sheets.get(path.get(k));
                s.offset = -1;
                s.where = 0;
                stack.addFirst(s.id);
            }
            sheets.get(path.get(0)).skew /= 2;
            accounts[7] += count;
            path.clear();
            reason = 0;
            return stack.size();
        }
    }

    /** What the document says, in the words of the model. */
    private static final class Model {
        World w = new World();
        LinkedList<World> history = new LinkedList<>();
        World[] slots = new World[2];

        int parse(String text) {
            Reader reader = new Reader(text);
            if (reader.error >= 0) {
                return -2 - reader.error;
            }
            w = reader.w;
            history.clear();
            Arrays.fill(slots, null);
            return w.sheets.size();
        }

        /** The number of the exception that is due, 0 if none is. */
        int refusal(int call, int a, int b) {
            int n = w.sheets.size();
            boolean stopped = !w.path.isEmpty();
            switch (call) {
                case 0: return a < 0 || a > 11 ? 1 : 0;
                case 1: return a < 0 || a > 3 ? 1 : 0;
                case 2: return a < 0 || a >= n ? 3 : b < 0 || b > 7 ? 1 : 0;
                case 4: return a < 0 || a >= w.pages.size() ? 3 : b < 0 || b > 2 ? 1 : 0;
                case 5: return a < 0 || a >= w.jobs.size() ? 3 : b < 0 || b > 3 ? 1 : 0;
                case 6: return a < 0 || a >= n ? 3 : 0;
                case 7: return a < 101 || a > 300 || b < 0 || b > 4 ? 1 : 0;
                case 9: return a < 0 || a > 80 ? 1 : 0;
                case 10: return a < 0 || a > 8 ? 1 : 0;
                case 11: return a < 0 || a > 6 ? 1 : 0;
                case 13: case 14: case 15: case 16: return a < 0 || a > 4 ? 1 : 0;
                case 17: case 18: return a < 1 || a > 40 ? 1 : stopped ? 2 : 0;
                case 19: case 20: return stopped ? 0 : 2;
                case 21: return a < 0 || a > 999 ? 1 : w.jobs.size() >= 99 ? 2 : 0;
                case 22: return a < 0 || a > 3 || b < Reader.LIMITS[a][0] || b > Reader.LIMITS[a][1] ? 1 : 0;
                case 23: return a % 2 == 0 && (!stopped || w.reason == 3) ? 2 : 0;
                default: return 0;
            }
        }

        String answer(int call, int a, int b) {
            if (call >= 17 && call <= 23) {
                history.addLast(w.copy());
                if (history.size() > 10) {
                    history.removeFirst();
                }
                return changed(call, a, b);
            }
            switch (call) {
                case 0: return "" + size(a);
                case 1: return "" + w.limits[a];
                case 2: return "" + sheet(w.sheets.get(a), b);
                case 3: return at(w.stack, a) + " " + at(w.path, a);
                case 4: return "" + w.pages.get(a)[b];
                case 5: return "" + job(a, b);
                case 6: return "" + w.sheets.get(a).half;
                case 7: return "" + ahead(a)[b];
                case 8: return "" + best();
                case 9: return "" + blankFor(a);
                case 10: return "" + w.accounts[a];
                case 11: return "" + w.sheets.stream().filter(s -> s.where == a).count();
                case 12: return "" + mean();
                case 13: case 14: case 15: case 16: return "" + next(a);
                case 24: return undone();
                case 25: return "" + save(a);
                default: return "" + restore(a);
            }
        }

        private String changed(int call, int a, int b) {
            switch (call) {
                case 17: case 18:
                    int through = 0;
                    for (int k = 0; k < a && w.path.isEmpty() && !w.stack.isEmpty(); k++) {
                        through += w.pick() ? 1 : 0;
                    }
                    return "" + through;
                case 19: return "" + w.putBackPath();
                case 20: return "" + w.removePath();
                case 21:
                    w.jobs.add(a);
                    return "" + (w.jobs.size() - 1);
                case 22:
                    int limit = w.limits[a];
                    w.limits[a] = b;
                    return "" + limit;
                default:
                    if (a % 2 == 0) {
                        w.accounts[8]++;
                        return "" + w.through();
                    }
                    boolean duplex = w.duplex;
                    w.duplex = b % 2 == 0;
                    return "" + duplex;
            }
        }

        private static int at(List<Integer> list, int k) {
            return k >= 0 && k < list.size() ? list.get(k) : -1;
        }

        private int size(int what) {
            int halves = (int) w.sheets.stream().filter(s -> s.half).count();
            int[] all = {w.sheets.size(), w.stack.size(), w.path.size(), w.reason, w.pages.size(), w.jobs.size(),
                w.duplex ? 1 : 0, w.length, w.thick, w.usual(), halves, history.size()};
            return all[what];
        }

        private static int sheet(Sheet s, int what) {
            int[] all = {s.length, s.thick, s.skew, s.front, s.back, s.code, s.offset, s.where};
            return all[what];
        }

        private int job(int job, int what) {
            List<Integer> numbers = new ArrayList<>();
            List<Integer> sheets = new ArrayList<>();
            for (int p = 0; p < w.pages.size(); p++) {
                if (w.pages.get(p)[2] == job) {
                    numbers.add(p);
                    int id = w.pages.get(p)[0];
                    if (w.sheets.get(id).where == 2 && !sheets.contains(id)) {
                        sheets.add(id);
                    }
                }
            }
            int[] all = {w.jobs.get(job), numbers.size(), numbers.isEmpty() ? -1 : numbers.get(0), sheets.size()};
            return all[what];
        }

        private int next(int what) {
            List<Sheet> pick = w.nextPick();
            if (pick.isEmpty()) {
                return -1;
            }
            int[] all = {pick.size(), World.thickness(pick), World.lengthOf(pick), w.reasonFor(pick), w.pagesOf(pick.get(0))};
            return all[what];
        }

        /** Feeds a copy of everything, pick by pick, and counts by comparing. */
        private int[] ahead(int percent) {
            World c = w.copy();
            c.limits[0] = percent;
            c.removePath();
            int[] all = new int[5];
            while (!c.stack.isEmpty()) {
                int sheets = c.nextPick().size();
                boolean through = c.pick();
                all[0] += c.reason == 1 ? 1 : 0;
                all[1] += c.reason == 1 && sheets == 1 ? 1 : 0;
                all[2] += through && sheets > 1 ? 1 : 0;
                all[4] += c.removePath();
            }
            all[3] = c.pages.size() - w.pages.size();
            return all;
        }

        private int best() {
            int best = -1;
            int least = 0;
            for (int percent = 300; percent >= 101; percent--) {
                int[] all = ahead(percent);
                if (best < 0 || all[1] + all[2] <= least) {
                    best = percent;
                    least = all[1] + all[2];
                }
            }
            return best;
        }

        private int blankFor(int sides) {
            for (int blank = 0; blank <= 1000; blank++) {
                int value = blank;
                if (w.sheets.stream().mapToInt(s -> s.blanks(value)).sum() >= sides) {
                    return blank;
                }
            }
            return -1;
        }

        private double mean() {
            double sum = 0;
            for (int[] p : w.pages) {
                sum += p[1] == 0 ? w.sheets.get(p[0]).front : w.sheets.get(p[0]).back;
            }
            return w.pages.isEmpty() ? 0.0 : sum / w.pages.size();
        }

        private String undone() {
            if (history.isEmpty()) {
                return "-1";
            }
            w = history.removeLast();
            return "" + history.size();
        }

        private boolean save(int slot) {
            if (slot != 0 && slot != 1) {
                return false;
            }
            slots[slot] = w.copy();
            return true;
        }

        private boolean restore(int slot) {
            if (slot != 0 && slot != 1 || slots[slot] == null) {
                return false;
            }
            w = slots[slot].copy();
            history.clear();
            return true;
        }
    }

    /** The model's parser: the whole text cut into tokens first, then statement by statement. */
    private static final class Reader {
        static final int[][] LIMITS = {{101, 300}, {0, 200}, {0, 99}, {0, 1000}};
        private static final int[][] SHAPE = {{50, 500}, {30, 500}};
        private static final Pattern TOKEN = Pattern.compile("[a-z]+|[0-9]+|[^ \n]", Pattern.DOTALL);

        final World w = new World();
        int error = -1;
        private final List<String> tokens = new ArrayList<>();
        private final List<Integer> offsets = new ArrayList<>();
        private int at;
        private final List<String> seen = new ArrayList<>();

        Reader(String text) {
            Matcher m = TOKEN.matcher(text);
            while (m.find()) {
                tokens.add(m.group());
                offsets.add(m.start());
            }
            tokens.add("");
            offsets.add(text.length());
            try {
                read();
            } catch (Stop e) {
                error = 8 * offsets.get(at) + e.kind;
            }
        }

        /** The first error. */
        private static final class Stop extends RuntimeException {
            private static final long serialVersionUID = 1;
            final int kind;

            Stop(int kind) {
                this.kind = kind;
            }
        }

        private void read() {
            expect("feeder");
            w.length = number(50, 500);
            w.thick = number(30, 500);
            expect(";");
            while (!tokens.get(at).isEmpty()) {
                String word = tokens.get(at);
                if (!List.of("sheet", "code", "again", "limits", "simplex").contains(word)) {
                    throw new Stop(1);
                }
                boolean isSheet = word.equals("sheet") || word.equals("code");
                check(isSheet && w.sheets.size() == 40, 5);
                check(!isSheet && !word.equals("again") && seen.contains(word), 2);
                check(word.equals("again") && w.sheets.isEmpty(), 3);
                seen.add(word);
                at++;
                if (isSheet) {
                    put(sheet(word.equals("code")));
                } else if (word.equals("again")) {
                    again();
                } else if (word.equals("limits")) {
                    for (int k = 0; k < 4; k++) {
                        w.limits[k] = number(LIMITS[k][0], LIMITS[k][1]);
                    }
                } else {
                    w.duplex = false;
                }
                expect(";");
            }
        }

        private Sheet sheet(boolean code) {
            Sheet s = new Sheet();
            s.code = code ? number(0, 999) : -1;
            s.length = number(SHAPE[0][0], SHAPE[0][1]);
            s.thick = number(SHAPE[1][0], SHAPE[1][1]);
            int sign = tokens.get(at).equals("-") ? -1 : 1;
            at += sign < 0 ? 1 : 0;
            s.skew = sign * number(0, 99);
            if (!code) {
                s.front = number(0, 1000);
                s.back = number(0, 1000);
            }
            if (tokens.get(at).equals("stuck")) {
                at++;
                s.offset = number(0, 400);
            }
            return s;
        }

        private void again() {
            int times = number(1, 39);
            at--;
            check(w.sheets.size() + times > 40, 5);
            at++;
            for (int k = 0; k < times; k++) {
                put(w.sheets.get(w.sheets.size() - 1).copy());
            }
        }

        private void put(Sheet s) {
            s.id = w.sheets.size();
            w.sheets.add(s);
            w.stack.addLast(s.id);
        }

        private void check(boolean wrong, int kind) {
            if (wrong) {
                throw new Stop(kind);
            }
        }

        private void expect(String token) {
            check(!tokens.get(at).equals(token), 1);
            at++;
        }

        private int number(int least, int greatest) {
            check(!tokens.get(at).matches("[0-9]{1,4}"), 1);
            int value = Integer.parseInt(tokens.get(at));
            check(value < least || value > greatest, 4);
            at++;
            return value;
        }
    }
}
