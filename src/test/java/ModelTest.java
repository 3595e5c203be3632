import java.util.ArrayList;
import java.util.List;
import java.util.Map;
import java.util.Random;
import java.util.TreeMap;
import java.util.TreeSet;
import java.util.regex.Pattern;

/** Long random runs of calls, each answer held against a model that does by brute force what the document says. */
public final class ModelTest {
    private static final int RUNS = 150;
    private static final int CALLS = 500;
    private static final String[] NAMES = {"letter", "blank", "fault", "pile", "brick", "as", "makes", "put", "exchange",
        "change", "tell", "hush", "swing", "order", "need", "left", "fits", "look", "odds", "see", "forget", "drawn",
        "image", "restore", "count", "digest"};
    /** How many numbers each of these takes. */
    private static final int[] TAKES = {1, 0, 0, 0, 2, 2, 3, 2, 2, 2, 2, 1, 1, 1, 2, 0, 1, 0, 3, 4, 0, 3, 0, 0, 1, 0};

    private ModelTest() {
    }

    public static void main(String[] args) {
        int wrong = 0;
        for (int run = 0; run < RUNS && wrong == 0; run++) {
            wrong += wrongOnesIn(run);
        }
        System.out.println(wrong == 0 ? "all answers are as the model's" : wrong + " answers are not as the model's");
        if (wrong != 0) {
            System.exit(1);
        }
    }

    private static int wrongOnesIn(int run) {
        Random random = new Random(run);
        NumberPile x = new NumberPile();
        Model model = new Model();
        StringBuilder told = new StringBuilder();
        int calls = 0;
        while (calls < CALLS) {
            List<int[]> next = nextCalls(random, model);
            for (int[] call : next) {
                calls++;
                long got = ask(x, call);
                long due = model.answer(call);
                told.append(shown(call)).append(' ').append(got).append('\n');
                if (got != due) {
                    System.out.println("run " + run + ":\n" + told + "the model says " + due);
                    return 1;
                }
            }
        }
        return 0;
    }

    private static String shown(int[] call) {
        StringBuilder text = new StringBuilder(NAMES[call[0]]).append('(');
        for (int i = 0; i < TAKES[call[0]]; i++) {
            text.append(i == 0 ? "" : ", ").append(call[i + 1]);
        }
        return text.append(')').toString();
    }

    /** One call, or all letters of a pile and pile(). */
    private static List<int[]> nextCalls(Random random, Model model) {
        List<int[]> calls = new ArrayList<>();
        if (random.nextInt(60) == 0 || model.wide == 0 && random.nextInt(4) == 0) {
            if (random.nextInt(5) > 0) {
                calls.add(new int[] {1, 0, 0, 0, 0});
            }
            for (char letter : somePile(random).toCharArray()) {
                calls.add(new int[] {0, letter, 0, 0, 0});
            }
            calls.add(new int[] {2, 0, 0, 0, 0});
            calls.add(new int[] {3, 0, 0, 0, 0});
            return calls;
        }
        int which = random.nextInt(NAMES.length);
        if (which <= 1 && random.nextInt(3) > 0) {
            which = 10;
        }
        if (which == 20 && random.nextInt(3) > 0) {
            which = 19;
        }
        if ((which == 14 || which == 17) && random.nextInt(3) > 0) {
            which = 25;
        }
        calls.add(someCall(random, model, which));
        return calls;
    }

    private static String somePile(Random random) {
        int wide = 2 + random.nextInt(3);
        StringBuilder text = new StringBuilder().append(wide);
        for (int many = wide - 1; many > 0; many--) {
            text.append(many == wide - 1 ? ';' : ',');
            for (int i = 0; i < many; i++) {
                text.append("sgmwl".charAt(random.nextInt(5)));
            }
        }
        text.append(';');
        for (int i = 0; i < wide; i++) {
            text.append(random.nextInt(10));
        }
        if (random.nextInt(6) == 0) {
            text.setCharAt(random.nextInt(text.length()), "0123459sgmwlx;, ".charAt(random.nextInt(16)));
        }
        if (random.nextInt(10) == 0) {
            text.append("09;s".charAt(random.nextInt(4)));
        }
        if (random.nextInt(10) == 0) {
            text.setLength(random.nextInt(text.length()));
        }
        return text.toString();
    }

    private static int[] someCall(Random random, Model model, int which) {
        int[] call = {which, 0, 0, 0, 0};
        for (int i = 1; i <= TAKES[which]; i++) {
            call[i] = someNumber(random);
        }
        if (TAKES[which] > 1 && random.nextInt(6) > 0 && model.size > 0) {
            call[1] = random.nextInt(model.size);
        }
        boolean ofFigure = which == 7 || which == 8 || which == 12 || which == 18;
        if (ofFigure && random.nextInt(6) > 0 && model.wide > 0) {
            call[1] = random.nextInt(model.wide);
            call[2] = which == 8 ? random.nextInt(model.wide) : call[2];
        }
        if (which == 10 && random.nextInt(3) > 0 && model.size > 0) {
            call[2] = model.greatOf(someRow(random, model))[call[1] < 0 || call[1] >= model.size ? 0 : call[1]];
        }
        if (which == 14) {
            call[1] = random.nextInt(3) > 0 ? random.nextInt(60) : random.nextInt(1100) - 50;
            call[2] = random.nextInt(8) > 0 ? random.nextInt(2) : call[2];
        }
        if (which == 16 && random.nextBoolean()) {
            call[1] = random.nextInt(10500);
        }
        if (which == 18 && random.nextInt(6) > 0) {
            call[3] = random.nextInt(2);
        }
        if (which == 19 && random.nextInt(4) > 0 && model.size > 0) {
            call[1] = model.wide + random.nextInt(model.size - model.wide);
            call[2] = random.nextInt(10);
            call[3] = random.nextInt(10);
            call[4] = Model.made(random.nextInt(5), call[2], call[3]);
        }
        if (which == 21) {
            call[1] = random.nextInt(64) - 1;
            call[2] = random.nextInt(8) > 0 ? random.nextInt(Integer.MAX_VALUE) : call[2];
            call[3] = random.nextInt(8) > 0 ? random.nextInt(3) : call[3];
        }
        return call;
    }

    private static int[] someRow(Random random, Model model) {
        int[] row = model.figures.clone();
        if (random.nextBoolean()) {
            row[random.nextInt(row.length)] = random.nextInt(10);
        }
        return row;
    }

    private static int someNumber(Random random) {
        switch (random.nextInt(12)) {
            case 0: return -1;
            case 1: return 10 + random.nextInt(60);
            case 2: return random.nextInt(1300);
            case 3: return random.nextBoolean() ? Integer.MIN_VALUE : Integer.MAX_VALUE;
            case 4: return random.nextInt();
            default: return random.nextInt(10);
        }
    }

    private static long ask(NumberPile x, int[] c) {
        switch (c[0]) {
            case 0: return x.letter(c[1]);
            case 1: return x.blank();
            case 2: return x.fault();
            case 3: return x.pile();
            case 4: return x.brick(c[1], c[2]);
            case 5: return x.as(c[1], c[2]);
            case 6: return x.makes(c[1], c[2], c[3]);
            case 7: return x.put(c[1], c[2]);
            case 8: return x.exchange(c[1], c[2]);
            case 9: return x.change(c[1], c[2]);
            case 10: return x.tell(c[1], c[2]);
            case 11: return x.hush(c[1]);
            case 12: return x.swing(c[1]);
            case 13: return x.order(c[1]);
            case 14: return x.need(c[1], c[2]);
            case 15: return x.left();
            case 16: return x.fits(c[1]);
            case 17: return x.look();
            case 18: return x.odds(c[1], c[2], c[3]);
            case 19: return x.see(c[1], c[2], c[3], c[4]);
            case 20: return x.forget();
            case 21: return x.drawn(c[1], c[2], c[3]);
            case 22: return x.image();
            case 23: return x.restore();
            case 24: return x.count(c[1]);
            default: return x.digest();
        }
    }

    /** Answers as the document's words say, without any care for speed. */
    private static final class Model {
        private static final int NONE = -1, UNKNOWN = -101, OUTSIDE = -102, STATE = -103, FULL = -104;
        private static final Pattern PILE = Pattern.compile(
            "2;[sgmwl];[0-9]{2}|3;[sgmwl]{2},[sgmwl];[0-9]{3}|4;[sgmwl]{3},[sgmwl]{2},[sgmwl];[0-9]{4}");

        private String page = "";
        private int wide;
        private int size;
        private String kinds = "";
        private int[] figures = {};
        private TreeMap<Integer, Integer> told = new TreeMap<>();
        private List<int[]> seen = new ArrayList<>();
        private int changes;
        private Object[] kept;
        private int reads;
        private int needs;
        private int looks;
        private List<int[]> fitting;

        long answer(int[] c) {
            switch (c[0]) {
                case 0: return letter(c[1]);
                case 1: return blank();
                case 2: return fault();
                case 3: return pile();
                case 4: return brick(c[1], c[2]);
                case 5: return as(c[1], c[2]);
                case 6: return makes(c[1], c[2], c[3]);
                case 7: return put(c[1], c[2]);
                case 8: return exchange(c[1], c[2]);
                case 9: return change(c[1], c[2]);
                case 10: return tell(c[1], c[2]);
                case 11: return hush(c[1]);
                case 12: return swing(c[1]);
                case 13: return order(c[1]);
                case 14: return need(c[1], c[2]);
                case 15: return wide == 0 ? STATE : fitting().size();
                case 16: return fits(c[1]);
                case 17: return look();
                case 18: return odds(c[1], c[2], c[3]);
                case 19: return see(c[1], c[2], c[3], c[4]);
                case 20: return forget();
                case 21: return drawn(c[1], c[2], c[3]);
                case 22: return image();
                case 23: return restore();
                case 24: return count(c[1]);
                default: return digest();
            }
        }

        private static boolean digit(int n) {
            return 0 <= n && n <= 9;
        }

        static int made(int kind, int l, int r) {
            int[] all = {l + r, l > r ? l - r : r - l, l > r ? l : r, l + l + r, (l + l + r) % 10};
            return all[kind];
        }

        private int kind(int b) {
            return "sgmwl".indexOf(kinds.charAt(b - wide));
        }

        /** Row upon row, as one would build it. */
        int[] greatOf(int[] row) {
            List<Integer> all = new ArrayList<>();
            int[] below = row;
            for (int f : row) {
                all.add(f);
            }
            while (below.length > 1) {
                int[] upon = new int[below.length - 1];
                for (int i = 0; i < upon.length; i++) {
                    upon[i] = made(kind(all.size()), below[i], below[i + 1]);
                    all.add(upon[i]);
                }
                below = upon;
            }
            return all.stream().mapToInt(i -> i).toArray();
        }

        private int topOf(int[] row) {
            int[] great = greatOf(row);
            return great[great.length - 1];
        }

        private static int number(int[] row) {
            int n = 0;
            for (int f : row) {
                n = 10 * n + f;
            }
            return n;
        }

        private List<int[]> allRows() {
            List<int[]> rows = new ArrayList<>();
            int many = (int) Math.pow(10, wide);
            for (int n = 0; n < many; n++) {
                int[] row = new int[wide];
                int rest = n;
                for (int i = wide - 1; i >= 0; i--) {
                    row[i] = rest % 10;
                    rest /= 10;
                }
                rows.add(row);
            }
            return rows;
        }

        private List<int[]> fitting() {
            if (fitting == null) {
                fitting = new ArrayList<>();
                for (int[] row : allRows()) {
                    int[] great = greatOf(row);
                    if (told.entrySet().stream().allMatch(t -> great[t.getKey()] == t.getValue())) {
                        fitting.add(row);
                    }
                }
            }
            return fitting;
        }

        private int letter(int code) {
            if (code < 1 || code > 126) {
                return OUTSIDE;
            }
            if (page.length() == 18) {
                return FULL;
            }
            page += (char) code;
            return page.length();
        }

        private int blank() {
            int had = page.length();
            page = "";
            return had;
        }

        /** A beginning is good if the pattern could still go on from it. */
        private int fault() {
            for (int many = 1; many <= page.length(); many++) {
                java.util.regex.Matcher m = PILE.matcher(page.substring(0, many));
                if (!m.matches() && !m.hitEnd()) {
                    return many - 1;
                }
            }
            return page.length();
        }

        private int pile() {
            if (!PILE.matcher(page).matches()) {
                return STATE;
            }
            String[] parts = page.split(";");
            wide = Integer.parseInt(parts[0]);
            kinds = parts[1].replace(",", "");
            figures = parts[2].chars().map(c -> c - '0').toArray();
            size = wide + kinds.length();
            told = new TreeMap<>();
            seen = new ArrayList<>();
            changes = 0;
            kept = null;
            fitting = null;
            page = "";
            reads++;
            return size;
        }

        private int sorts(int b) {
            int bits = 0;
            for (int k = 0; k < 5; k++) {
                int kind = k;
                if (seen.stream().allMatch(s -> s[0] != b || made(kind, s[1], s[2]) == s[3])) {
                    bits += 1 << k;
                }
            }
            return bits;
        }

        private int tryOf(int b) {
            int bits = sorts(b);
            if (bits == 0) {
                return NONE;
            }
            TreeSet<Integer> choices = new TreeSet<>();
            for (int pair = 0; pair < 100; pair++) {
                Map<Integer, Integer> often = new TreeMap<>();
                for (int k = 0; k < 5; k++) {
                    if ((bits & 1 << k) != 0) {
                        often.merge(made(k, pair / 10, pair % 10), 1, Integer::sum);
                    }
                }
                int worst = often.values().stream().mapToInt(i -> i).max().orElse(0);
                choices.add(worst * 100 + pair);
            }
            return choices.first() % 100;
        }

        private int leftOf(int b) {
            int many = wide;
            int start = 0;
            while (b >= start + many) {
                start += many;
                many--;
            }
            return start - (many + 1) + (b - start);
        }

        private int brick(int b, int what) {
            if (b < 0 || b >= size) {
                return UNKNOWN;
            }
            boolean figure = b < wide;
            switch (what) {
                case 0: return figure ? NONE : kind(b);
                case 1: return greatOf(figures)[b];
                case 2: return figure ? NONE : leftOf(b);
                case 3: return figure ? NONE : leftOf(b) + 1;
                case 4: return told.getOrDefault(b, NONE);
                case 5: return figure ? 0 : sorts(b);
                case 6: return figure ? NONE : tryOf(b);
                default: return OUTSIDE;
            }
        }

        private int as(int b, int kind) {
            if (b < 0 || b >= size) {
                return UNKNOWN;
            }
            if (kind < 0 || kind > 4) {
                return OUTSIDE;
            }
            if (b < wide) {
                return NONE;
            }
            boolean such = kind == 0 || kind(b) == kind || kind == 3 && kind(b) == 4;
            return such ? b : NONE;
        }

        private int makes(int b, int l, int r) {
            if (b < wide || b >= size) {
                return UNKNOWN;
            }
            return digit(l) && digit(r) ? made(kind(b), l, r) : OUTSIDE;
        }

        private int put(int f, int d) {
            if (f < 0 || f >= wide) {
                return UNKNOWN;
            }
            if (!digit(d)) {
                return OUTSIDE;
            }
            figures[f] = d;
            changes++;
            return topOf(figures);
        }

        private int exchange(int one, int other) {
            if (one < 0 || one >= wide || other < 0 || other >= wide || one == other) {
                return UNKNOWN;
            }
            int[] row = figures.clone();
            row[one] = figures[other];
            row[other] = figures[one];
            figures = row;
            changes++;
            return topOf(figures);
        }

        private int change(int b, int kind) {
            if (b < wide || b >= size) {
                return UNKNOWN;
            }
            if (kind < 0 || kind > 4) {
                return OUTSIDE;
            }
            int was = kind(b);
            kinds = kinds.substring(0, b - wide) + "sgmwl".charAt(kind) + kinds.substring(b - wide + 1);
            fitting = null;
            return was;
        }

        private int tell(int b, int n) {
            if (b < 0 || b >= size) {
                return UNKNOWN;
            }
            if (n < 0 || n > 999) {
                return OUTSIDE;
            }
            told.put(b, n);
            fitting = null;
            return fitting().size();
        }

        private int hush(int b) {
            if (b < 0 || b >= size) {
                return UNKNOWN;
            }
            if (told.remove(b) == null) {
                return STATE;
            }
            fitting = null;
            return fitting().size();
        }

        private int swing(int f) {
            if (f < 0 || f >= wide) {
                return UNKNOWN;
            }
            if (figures[f] == 9) {
                return NONE;
            }
            int[] row = figures.clone();
            row[f]++;
            return topOf(row) - topOf(figures) + 1000;
        }

        private int order(int what) {
            if (what < 0 || what > 1) {
                return OUTSIDE;
            }
            if (wide == 0) {
                return STATE;
            }
            int[] sorted = figures.clone();
            java.util.Arrays.sort(sorted);
            int most = -1;
            int least = -1;
            for (int[] row : allRows()) {
                int[] like = row.clone();
                java.util.Arrays.sort(like);
                if (java.util.Arrays.equals(like, sorted) && topOf(row) > most) {
                    most = topOf(row);
                    least = number(row);
                }
            }
            return what == 0 ? most : least;
        }

        private int need(int n, int what) {
            if (n < 0 || n > 999 || what < 0 || what > 1) {
                return OUTSIDE;
            }
            if (wide == 0 || needs == 20) {
                return STATE;
            }
            needs++;
            int fewest = NONE;
            int least = NONE;
            for (int[] row : allRows()) {
                int changed = 0;
                for (int i = 0; i < wide; i++) {
                    changed += row[i] != figures[i] ? 1 : 0;
                }
                if (topOf(row) == n && (fewest == NONE || changed < fewest)) {
                    fewest = changed;
                    least = number(row);
                }
            }
            return what == 0 ? fewest : least;
        }

        private int fits(int n) {
            if (n < 0) {
                return OUTSIDE;
            }
            if (wide == 0) {
                return STATE;
            }
            return n < fitting().size() ? number(fitting().get(n)) : NONE;
        }

        private int look() {
            if (wide == 0 || looks == 20) {
                return STATE;
            }
            looks++;
            if (fitting().isEmpty()) {
                return NONE;
            }
            TreeSet<Integer> choices = new TreeSet<>();
            for (int b = 0; b < size; b++) {
                if (!told.containsKey(b)) {
                    Map<Integer, Integer> often = new TreeMap<>();
                    for (int[] row : fitting()) {
                        often.merge(greatOf(row)[b], 1, Integer::sum);
                    }
                    choices.add(often.values().stream().mapToInt(i -> i).max().orElse(0) * 10 + b);
                }
            }
            return choices.isEmpty() ? NONE : choices.first() % 10;
        }

        private int odds(int f, int d, int what) {
            if (f < 0 || f >= wide) {
                return UNKNOWN;
            }
            if (!digit(d) || what < 0 || what > 1) {
                return OUTSIDE;
            }
            int below = fitting().size();
            int above = (int) fitting().stream().filter(row -> row[f] == d).count();
            if (below == 0) {
                return what;
            }
            for (int n = below; n > 1; n--) {
                if (above % n == 0 && below % n == 0) {
                    above /= n;
                    below /= n;
                }
            }
            return what == 0 ? above : below;
        }

        private int see(int b, int l, int r, int n) {
            if (b < wide || b >= size) {
                return UNKNOWN;
            }
            if (!digit(l) || !digit(r) || n < 0 || n > 30) {
                return OUTSIDE;
            }
            if (seen.size() == 6) {
                return FULL;
            }
            seen.add(new int[] {b, l, r, n});
            return seen.size();
        }

        private int forget() {
            int was = seen.size();
            seen = new ArrayList<>();
            return was;
        }

        private int drawn(int times, int seed, int what) {
            if (times < 1 || times > 60 || seed < 0 || what < 0 || what > 2) {
                return OUTSIDE;
            }
            if (wide == 0) {
                return STATE;
            }
            long next = seed;
            int together = 0;
            int greatest = 0;
            for (int time = 0; time < times; time++) {
                int[] row = new int[wide];
                for (int i = 0; i < wide; i++) {
                    next = (1103515245L * next + 12345L) % 2147483648L;
                    row[i] = (int) (next / 65536 % 10);
                }
                together += topOf(row);
                greatest = Math.max(greatest, topOf(row));
            }
            return what == 0 ? together : what == 1 ? greatest : (int) next;
        }

        private int image() {
            if (wide == 0) {
                return STATE;
            }
            kept = new Object[] {kinds, figures.clone(), new TreeMap<>(told), new ArrayList<>(seen), changes};
            return changes;
        }

        @SuppressWarnings("unchecked")
        private int restore() {
            if (kept == null) {
                return STATE;
            }
            kinds = (String) kept[0];
            figures = ((int[]) kept[1]).clone();
            told = new TreeMap<>((TreeMap<Integer, Integer>) kept[2]);
            seen = new ArrayList<>((List<int[]>) kept[3]);
            changes = (Integer) kept[4];
            fitting = null;
            return changes;
        }

        private int count(int what) {
            int[] great = wide == 0 ? new int[0] : greatOf(figures);
            switch (what) {
                case 0: return wide;
                case 1: return size;
                case 2: return wide == 0 ? NONE : topOf(figures);
                case 3: return java.util.Arrays.stream(great).sum();
                case 4: return told.size();
                case 5: return (int) told.entrySet().stream().filter(t -> great[t.getKey()] == t.getValue()).count();
                case 6: return changes;
                case 7: return seen.size();
                case 8: return page.length();
                case 9: return reads;
                case 10: return needs;
                case 11: return looks;
                default: return OUTSIDE;
            }
        }

        private long digest() {
            List<Integer> numbers = new ArrayList<>();
            for (int b = 0; b < size; b++) {
                for (int what = 0; what < 7; what++) {
                    numbers.add(brick(b, what));
                }
            }
            for (int f = 0; f < wide; f++) {
                numbers.addAll(List.of(swing(f), odds(f, 3, 0), odds(f, 3, 1)));
            }
            if (wide > 0) {
                numbers.addAll(List.of(order(0), order(1), fitting().size(), fits(0)));
            }
            page.chars().forEach(numbers::add);
            for (int what = 0; what < 12; what++) {
                numbers.add(count(what));
            }
            long h = 1327;
            for (int n : numbers) {
                h = h * 31 + n;
            }
            return h;
        }
    }
}
