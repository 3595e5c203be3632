import java.util.Arrays;

/** Piles of numbers, one upon the other: shared/DOC.md says what each call promises. */
public final class NumberPile {
    public static final int NONE = -1, UNKNOWN = -101, OUTSIDE = -102, STATE = -103, FULL = -104;

    private static final String LETTERS = "sgmwl";
    private static final char ANY_KIND = 'K';
    private static final char ANY_DIGIT = 'D';
    private static final String FORM_OF_2 = "2;K;DD";
    private static final String FORM_OF_3 = "3;KK,K;DDD";
    private static final String FORM_OF_4 = "4;KKK,KK,K;DDDD";

    private static final int KINDS = 5;
    private static final int GAP = 1;
    private static final int MORE = 2;
    private static final int TWICE = 3;
    private static final int LAST = 4;

    private static final int DIGITS = 10;
    private static final int PAIRS = 100;
    private static final int ROWS = 10000;
    /** Far above the 12221 digits and turns that all rows of four take. */
    private static final int MOST_STEPS = 100000;

    private static final int LAST_CODE = 126;
    private static final int MOST_LETTERS = 18;
    private static final int MOST_CHANGES = 9999;
    private static final int MOST_NUMBER = 999;
    private static final int MOST_SEEN = 6;
    private static final int MOST_SEEN_NUMBER = 30;
    private static final int MOST_TIMES = 60;
    private static final int MOST_SEARCHES = 20;

    private static final int BRICK_TELLS = 7;
    private static final int COUNT_TELLS = 12;
    private static final int DIGEST_START = 1327;
    private static final int DIGEST_DIGIT = 3;

    private final Brick[] kinds;
    private final Page page;
    private Pile current;
    private int reads;
    private int needs;
    private int looks;

    public NumberPile() {
        kinds = new Brick[] {new Brick(), new Gap(), new More(), new Twice(), new Last()};
        page = new Page();
        current = new Pile(0, kinds);
    }

    // ---- the pile

    public int letter(int code) {
        if (!isWithin(code, 1, LAST_CODE)) {
            return OUTSIDE;
        }
        if (page.length() >= MOST_LETTERS) {
            return FULL;
        }
        page.add((char) code);
        return page.length();
    }

    public int blank() {
        int had = page.length();
        page.clear();
        return had;
    }

    public int fault() {
        return page.firstFault();
    }

    public int pile() {
        if (!page.isPile()) {
            return STATE;
        }
        current = new Pile(page.wide(), kinds);
        current.read(page.text());
        page.clear();
        reads++;
        return current.size;
    }

    public int brick(int brick, int what) {
        if (!isBrick(brick)) {
            return UNKNOWN;
        }
        switch (what) {
            case 0: return isFigure(brick) ? NONE : current.kindOf(brick);
            case 1: return current.values[brick];
            case 2: return current.leftBelow[brick];
            case 3: return isFigure(brick) ? NONE : current.leftBelow[brick] + 1;
            case 4: return current.now.told[brick];
            case 5: return isFigure(brick) ? 0 : current.sorts(brick);
            case 6: return isFigure(brick) ? NONE : current.nextTry(current.sorts(brick));
            default: return OUTSIDE;
        }
    }

    public int as(int brick, int kind) {
        if (!isBrick(brick)) {
            return UNKNOWN;
        }
        if (!isWithin(kind, 0, KINDS - 1)) {
            return OUTSIDE;
        }
        if (isFigure(brick) || !isOfKind(kinds[current.kindOf(brick)], kind)) {
            return NONE;
        }
        return brick;
    }

    public int makes(int brick, int left, int right) {
        if (!isAbove(brick)) {
            return UNKNOWN;
        }
        if (!isDigit(left) || !isDigit(right)) {
            return OUTSIDE;
        }
        return kinds[current.kindOf(brick)].made(left, right);
    }

    // ---- what is done

    public int put(int figure, int digit) {
        if (!isFigure(figure)) {
            return UNKNOWN;
        }
        if (!isDigit(digit)) {
            return OUTSIDE;
        }
        if (current.now.changes >= MOST_CHANGES) {
            return FULL;
        }
        current.now.figures[figure] = digit;
        return current.figuresChanged();
    }

    public int exchange(int one, int other) {
        if (!isFigure(one) || !isFigure(other) || one == other) {
            return UNKNOWN;
        }
        if (current.now.changes >= MOST_CHANGES) {
            return FULL;
        }
        int[] figures = current.now.figures;
        int held = figures[one];
        figures[one] = figures[other];
        figures[other] = held;
        return current.figuresChanged();
    }

    public int change(int brick, int kind) {
        if (!isAbove(brick)) {
            return UNKNOWN;
        }
        if (!isWithin(kind, 0, KINDS - 1)) {
            return OUTSIDE;
        }
        int was = current.kindOf(brick);
        current.setKind(brick, kind);
        return was;
    }

    public int tell(int brick, int number) {
        if (!isBrick(brick)) {
            return UNKNOWN;
        }
        if (!isWithin(number, 0, MOST_NUMBER)) {
            return OUTSIDE;
        }
        current.setTold(brick, number);
        return current.fitting();
    }

    public int hush(int brick) {
        if (!isBrick(brick)) {
            return UNKNOWN;
        }
        if (current.now.told[brick] == NONE) {
            return STATE;
        }
        current.setTold(brick, NONE);
        return current.fitting();
    }

    // ---- what would be

    public int swing(int figure) {
        return isFigure(figure) ? current.swingOf(figure) : UNKNOWN;
    }

    public int order(int what) {
        if (!isWithin(what, 0, 1)) {
            return OUTSIDE;
        }
        if (!hasPile()) {
            return STATE;
        }
        return what == 0 ? current.bestTop() : current.bestOrder();
    }

    public int need(int number, int what) {
        if (!isWithin(number, 0, MOST_NUMBER) || !isWithin(what, 0, 1)) {
            return OUTSIDE;
        }
        if (!hasPile() || needs >= MOST_SEARCHES) {
            return STATE;
        }
        needs++;
        int nearest = current.nearestWithTop(number);
        if (nearest == NONE) {
            return NONE;
        }
        return what == 0 ? nearest / ROWS : nearest % ROWS;
    }

    public int left() {
        return hasPile() ? current.fitting() : STATE;
    }

    public int fits(int number) {
        if (number < 0) {
            return OUTSIDE;
        }
        if (!hasPile()) {
            return STATE;
        }
        return number < current.fitting() ? current.fittingRow(number) : NONE;
    }

    public int look() {
        if (!hasPile() || looks >= MOST_SEARCHES) {
            return STATE;
        }
        looks++;
        return current.nextLook();
    }

    public int odds(int figure, int digit, int what) {
        if (!isFigure(figure)) {
            return UNKNOWN;
        }
        if (!isDigit(digit) || !isWithin(what, 0, 1)) {
            return OUTSIDE;
        }
        int all = current.fitting();
        int some = current.fittingWith[figure * DIGITS + digit];
        if (what == 0) {
            return some / greatestDivisor(all, some);
        }
        return all == 0 ? 1 : all / greatestDivisor(all, some);
    }

    // ---- what is seen

    public int see(int brick, int left, int right, int number) {
        if (!isAbove(brick)) {
            return UNKNOWN;
        }
        if (!isDigit(left) || !isDigit(right) || !isWithin(number, 0, MOST_SEEN_NUMBER)) {
            return OUTSIDE;
        }
        if (current.now.sights >= MOST_SEEN) {
            return FULL;
        }
        current.now.addSight(new Sight(brick, left, right, number));
        return current.now.sights;
    }

    public int forget() {
        int was = current.now.sights;
        current.now.sights = 0;
        return was;
    }

    public int drawn(int times, int seed, int what) {
        if (!isWithin(times, 1, MOST_TIMES) || seed < 0 || !isWithin(what, 0, 2)) {
            return OUTSIDE;
        }
        if (!hasPile()) {
            return STATE;
        }
        int together = 0;
        int greatest = 0;
        int next = seed;
        for (int time = 0; time < times; time++) {
            next = current.draw(next);
            together += current.guessedTop();
            greatest = Math.max(greatest, current.guessedTop());
        }
        if (what == 2) {
            return next;
        }
        return what == 0 ? together : greatest;
    }

    // ---- what is told of all

    public int image() {
        if (!hasPile()) {
            return STATE;
        }
        current.keepImage();
        return current.now.changes;
    }

    public int restore() {
        if (!current.hasImage) {
            return STATE;
        }
        current.goBackToImage();
        return current.now.changes;
    }

    public int count(int what) {
        switch (what) {
            case 0: return current.wide;
            case 1: return current.size;
            case 2: return hasPile() ? current.top() : NONE;
            case 3: return current.sum();
            case 4: return current.countTold();
            case 5: return current.countTrue();
            case 6: return current.now.changes;
            case 7: return current.now.sights;
            case 8: return page.length();
            case 9: return reads;
            case 10: return needs;
            case 11: return looks;
            default: return OUTSIDE;
        }
    }

    public long digest() {
        long hash = DIGEST_START;
        for (int brick = 0; brick < current.size; brick++) {
            for (int what = 0; what < BRICK_TELLS; what++) {
                hash = 31 * hash + brick(brick, what);
            }
        }
        for (int figure = 0; figure < current.wide; figure++) {
            hash = 31 * hash + swing(figure);
            hash = 31 * hash + odds(figure, DIGEST_DIGIT, 0);
            hash = 31 * hash + odds(figure, DIGEST_DIGIT, 1);
        }
        if (hasPile()) {
            hash = 31 * hash + order(0);
            hash = 31 * hash + order(1);
            hash = 31 * hash + left();
            hash = 31 * hash + fits(0);
        }
        for (int place = 0; place < page.length(); place++) {
            hash = 31 * hash + page.letterAt(place);
        }
        for (int what = 0; what < COUNT_TELLS; what++) {
            hash = 31 * hash + count(what);
        }
        return hash;
    }

    private boolean hasPile() {
        return current.wide > 0;
    }

    private boolean isBrick(int number) {
        return isWithin(number, 0, current.size - 1);
    }

    private boolean isFigure(int number) {
        return isWithin(number, 0, current.wide - 1);
    }

    private boolean isAbove(int number) {
        return isWithin(number, current.wide, current.size - 1);
    }

    private static boolean isWithin(int number, int least, int most) {
        return number >= least && number <= most;
    }

    private static boolean isDigit(int number) {
        return isWithin(number, 0, DIGITS - 1);
    }

    private static boolean isOfKind(Brick brick, int kind) {
        switch (kind) {
            case GAP: return brick instanceof Gap;
            case MORE: return brick instanceof More;
            case TWICE: return brick instanceof Twice;
            case LAST: return brick instanceof Last;
            default: return true;
        }
    }

    /** 1 at least, so that it can divide, even of two noughts. */
    private static int greatestDivisor(int one, int other) {
        int greater = one;
        int lesser = other;
        for (int step = 0; step < MOST_STEPS && lesser != 0; step++) {
            int rest = greater % lesser;
            greater = lesser;
            lesser = rest;
        }
        return Math.max(greater, 1);
    }

    /** A ROW of FIGURES, read as one number. */
    private static int asNumber(int[] values, int wide) {
        int number = 0;
        for (int figure = 0; figure < wide && figure < values.length; figure++) {
            number = number * DIGITS + values[figure];
        }
        return number;
    }

    private static void copy(int[] from, int[] to) {
        System.arraycopy(from, 0, to, 0, Math.min(from.length, to.length));
    }

    /** How a BRICK is made of the two below it, by its KIND; this one is the plain one. */
    private static class Brick {
        int made(int left, int right) {
            return left + right;
        }
    }

    private static final class Gap extends Brick {
        @Override
        int made(int left, int right) {
            return Math.abs(left - right);
        }
    }

    private static final class More extends Brick {
        @Override
        int made(int left, int right) {
            return Math.max(left, right);
        }
    }

    private static class Twice extends Brick {
        @Override
        int made(int left, int right) {
            return 2 * left + right;
        }
    }

    private static final class Last extends Twice {
        @Override
        int made(int left, int right) {
            return super.made(left, right) % DIGITS;
        }
    }

    /** The letters that a PILE is read from. */
    private static final class Page {
        private final StringBuilder letters = new StringBuilder();

        int length() {
            return letters.length();
        }

        int letterAt(int place) {
            return isWithin(place, 0, letters.length() - 1) ? letters.charAt(place) : 0;
        }

        void add(char letter) {
            letters.append(letter);
        }

        void clear() {
            letters.setLength(0);
        }

        String text() {
            return letters.toString();
        }

        /** How WIDE a PILE that begins so is; 0 if none does. */
        int wide() {
            return form().isEmpty() ? 0 : letterAt(0) - '0';
        }

        boolean isPile() {
            int length = letters.length();
            return length > 0 && length == form().length() && firstFault() == length;
        }

        int firstFault() {
            String form = form();
            for (int place = 0; place < letters.length(); place++) {
                if (place >= form.length() || !suits(letters.charAt(place), form.charAt(place))) {
                    return place;
                }
            }
            return letters.length();
        }

        /** The first letter alone tells what all others may be. */
        private String form() {
            switch (letterAt(0)) {
                case '2': return FORM_OF_2;
                case '3': return FORM_OF_3;
                case '4': return FORM_OF_4;
                default: return "";
            }
        }

        private static boolean suits(char letter, char form) {
            if (form == ANY_KIND) {
                return LETTERS.indexOf(letter) >= 0;
            }
            if (form == ANY_DIGIT) {
                return isDigit(letter - '0');
            }
            return letter == form;
        }
    }

    /** That a BRICK would be made so great of two. */
    private static final class Sight {
        private final int brick;
        private final int left;
        private final int right;
        private final int number;

        Sight(int brick, int left, int right, int number) {
            this.brick = brick;
            this.left = left;
            this.right = right;
            this.number = number;
        }

        boolean isOf(int other) {
            return brick == other;
        }

        boolean allows(Brick kind) {
            return kind.made(left, right) == number;
        }
    }

    /** What an IMAGE keeps of a PILE. */
    private static final class State {
        /** KINDS by number, so that they are never missing: a plain one is 0. */
        private final int[] above;
        private final int[] figures;
        private final int[] told;
        private final Sight[] seen;
        private int sights;
        private int changes;

        State(int wide, int size) {
            above = new int[size - wide];
            figures = new int[wide];
            told = new int[size];
            Arrays.fill(told, NONE);
            seen = new Sight[MOST_SEEN];
        }

        void addSight(Sight sight) {
            if (sights < seen.length) {
                seen[sights] = sight;
                sights++;
            }
        }

        void takeFrom(State other) {
            for (int place = 0; place < seen.length && place < other.seen.length; place++) {
                seen[place] = other.seen[place];
            }
            copy(other.above, above);
            copy(other.figures, figures);
            copy(other.told, told);
            sights = other.sights;
            changes = other.changes;
        }
    }

    /** Goes by numbers through the ROWS of FIGURES by which all that is told is so. */
    private static final class Rows {
        private final int wide;
        private final Brick[] kinds;
        private final int[] above;
        private final int[] values;
        private int[] told;
        private int at;

        Rows(int wide, Brick[] kinds, int[] above) {
            this.wide = wide;
            this.kinds = kinds;
            this.above = above;
            values = new int[wide + above.length];
            told = values; // so that it is never null; start() comes ahead of next()
            at = NONE;
        }

        /** What is told is one number a BRICK, NONE for most. */
        void start(int[] toldNow) {
            told = toldNow;
            at = wide > 0 && told.length == values.length ? 0 : NONE;
            if (at == 0) {
                values[0] = NONE;
            }
        }

        boolean next() {
            for (int step = 0; step < MOST_STEPS && at >= 0; step++) {
                if (values[at] >= DIGITS - 1) {
                    at--;
                    continue;
                }
                values[at]++;
                if (!holds()) {
                    continue;
                }
                if (at == wide - 1) {
                    return true;
                }
                at++;
                values[at] = NONE;
            }
            return false;
        }

        int number() {
            return asNumber(values, wide);
        }

        /**
         * Makes the BRICKS for which the FIGURE at hand is the last one that they lacked: so a ROW is
         * given up before its other FIGURES are tried. Going up, each one has the one before it, and
         * the one left of that, right below it.
         */
        private boolean holds() {
            if (isOtherThanTold(at)) {
                return false;
            }
            int below = at;
            for (int row = 0; row < at; row++) {
                int brick = below + wide - row - 1;
                values[brick] = kinds[above[brick - wide]].made(values[below - 1], values[below]);
                if (isOtherThanTold(brick)) {
                    return false;
                }
                below = brick;
            }
            return true;
        }

        private boolean isOtherThanTold(int brick) {
            return told[brick] != NONE && told[brick] != values[brick];
        }
    }

    /** How often each BRICK is how great, in ROWS that FIT. */
    private static final class Tally {
        /** Where the counts of each BRICK begin, and where the last ones end. */
        private final int[] begin;
        private final int[] often;

        /** A TWICE of two like ones is three times as great as they are; no KIND makes more. */
        Tally(int wide, int size) {
            begin = new int[size + 1];
            int brick = 0;
            int greatest = DIGITS - 1;
            for (int many = wide; many > 0; many--) {
                for (int place = 0; place < many && brick < size; place++) {
                    begin[brick + 1] = begin[brick] + greatest + 1;
                    brick++;
                }
                greatest *= 3;
            }
            often = new int[begin[size]];
        }

        void clear() {
            Arrays.fill(often, 0);
        }

        void add(int[] values) {
            for (int brick = 0; brick < begin.length - 1 && brick < values.length; brick++) {
                int place = begin[brick] + values[brick];
                if (isWithin(place, begin[brick], begin[brick + 1] - 1)) {
                    often[place]++;
                }
            }
        }

        /** The most ROWS that make this BRICK alike. */
        int worst(int brick) {
            int worst = 0;
            for (int place = begin[brick]; place < begin[brick + 1]; place++) {
                worst = Math.max(worst, often[place]);
            }
            return worst;
        }
    }

    /** A PILE with all that is done with it; one that is 0 wide stands for none. */
    private static final class Pile {
        private final int wide;
        private final int size;
        private final Brick[] kinds;
        private final int[] leftBelow;
        private final State now;
        private final State kept;
        private boolean hasImage;
        /** How great each BRICK is now. */
        private final int[] values;
        /** How great each would be by FIGURES that are tried. */
        private final int[] guess;
        private final Rows rows;
        private final Tally tally;
        /** What NEED takes as told: of the TOP alone. */
        private final int[] wish;
        /** Of what FITS: how many, and how many with each digit at each FIGURE; true while isCounted. */
        private int fitting;
        private final int[] fittingWith;
        private boolean isCounted;

        Pile(int wide, Brick[] kinds) {
            this.kinds = kinds;
            this.wide = wide;
            size = wide * (wide + 1) / 2;
            leftBelow = new int[size];
            now = new State(wide, size);
            kept = new State(wide, size);
            values = new int[size];
            guess = new int[size];
            fittingWith = new int[wide * DIGITS];
            rows = new Rows(wide, kinds, now.above);
            tally = new Tally(wide, size);
            wish = new int[size];
            Arrays.fill(wish, NONE);
            setLeftBelow();
        }

        private void setLeftBelow() {
            Arrays.fill(leftBelow, NONE);
            int brick = wide;
            for (int many = wide - 1; many > 0; many--) {
                for (int place = 0; place < many && brick < size; place++) {
                    leftBelow[brick] = brick - many - 1;
                    brick++;
                }
            }
        }

        /** The text is a PILE that is as WIDE as this one. */
        void read(String text) {
            int brick = 0;
            int figure = 0;
            for (int place = 1; place < text.length(); place++) {
                int kind = LETTERS.indexOf(text.charAt(place));
                int digit = text.charAt(place) - '0';
                if (kind >= 0 && kind < kinds.length && brick < now.above.length) {
                    now.above[brick] = kind;
                    brick++;
                } else if (isDigit(digit) && figure < wide) {
                    now.figures[figure] = digit;
                    figure++;
                }
            }
            build();
        }

        private void build() {
            copy(now.figures, values);
            raise(values);
        }

        private void raise(int[] pile) {
            for (int brick = wide; brick < size; brick++) {
                int left = leftBelow[brick];
                pile[brick] = kinds[now.above[brick - wide]].made(pile[left], pile[left + 1]);
            }
        }

        /** For BRICKS above the lowest row alone. */
        int kindOf(int brick) {
            return now.above[brick - wide];
        }

        int top() {
            return size > 0 ? values[size - 1] : NONE;
        }

        int guessedTop() {
            return size > 0 ? guess[size - 1] : NONE;
        }

        int sum() {
            int sum = 0;
            for (int value : values) {
                sum += value;
            }
            return sum;
        }

        int countTold() {
            int many = 0;
            for (int number : now.told) {
                many += number == NONE ? 0 : 1;
            }
            return many;
        }

        int countTrue() {
            int many = 0;
            for (int brick = 0; brick < size; brick++) {
                many += now.told[brick] == values[brick] ? 1 : 0;
            }
            return many;
        }

        int figuresChanged() {
            now.changes++;
            build();
            return top();
        }

        void setKind(int brick, int kind) {
            now.above[brick - wide] = kind;
            isCounted = false;
            build();
        }

        void setTold(int brick, int number) {
            now.told[brick] = number;
            isCounted = false;
        }

        void keepImage() {
            kept.takeFrom(now);
            hasImage = true;
        }

        void goBackToImage() {
            now.takeFrom(kept);
            isCounted = false;
            build();
        }

        int swingOf(int figure) {
            if (now.figures[figure] == DIGITS - 1) {
                return NONE;
            }
            copy(now.figures, guess);
            guess[figure]++;
            raise(guess);
            return 1000 + guessedTop() - top();
        }

        int bestTop() {
            return bestLaid(this, 0, 0) / ROWS;
        }

        int bestOrder() {
            return ROWS - 1 - bestLaid(this, 0, 0) % ROWS;
        }

        /**
         * Of all ways to lay the FIGURES not used yet (as bits) from a place on, the best one: as a
         * number that is more by a greater TOP, and of like TOPS by a lesser ROW.
         */
        private static int bestLaid(Pile pile, int place, int used) {
            if (place >= pile.wide) {
                pile.raise(pile.guess);
                return pile.guessedTop() * ROWS + ROWS - 1 - asNumber(pile.guess, pile.wide);
            }
            int best = 0;
            for (int figure = 0; figure < pile.wide; figure++) {
                if ((used >> figure & 1) == 0) {
                    pile.guess[place] = pile.now.figures[figure];
                    best = Math.max(best, bestLaid(pile, place + 1, used | 1 << figure));
                }
            }
            return best;
        }

        /** How many FIGURES are to be changed, times ROWS, and the FIGURES then; or NONE. */
        int nearestWithTop(int number) {
            if (size > 0) {
                wish[size - 1] = number;
            }
            int nearest = NONE;
            rows.start(wish);
            for (int row = 0; row < ROWS && rows.next(); row++) {
                int found = changesTo(rows.values) * ROWS + rows.number();
                nearest = nearest == NONE ? found : Math.min(nearest, found);
            }
            return nearest;
        }

        private int changesTo(int[] others) {
            int many = 0;
            for (int figure = 0; figure < wide; figure++) {
                many += others[figure] == now.figures[figure] ? 0 : 1;
            }
            return many;
        }

        int fitting() {
            if (isCounted) {
                return fitting;
            }
            fitting = 0;
            Arrays.fill(fittingWith, 0);
            rows.start(now.told);
            for (int row = 0; row < ROWS && rows.next(); row++) {
                fitting++;
                for (int figure = 0; figure < wide; figure++) {
                    fittingWith[figure * DIGITS + rows.values[figure]]++;
                }
            }
            isCounted = true;
            return fitting;
        }

        /** For numbers below fitting(). */
        int fittingRow(int number) {
            rows.start(now.told);
            for (int row = 0; row <= number && row < ROWS; row++) {
                if (!rows.next()) {
                    return NONE;
                }
            }
            return rows.number();
        }

        int nextLook() {
            if (fitting() == 0) {
                return NONE;
            }
            tallyFitting();
            int best = NONE;
            int fewest = ROWS + 1;
            for (int brick = 0; brick < size; brick++) {
                int worst = tally.worst(brick);
                if (now.told[brick] == NONE && worst < fewest) {
                    fewest = worst;
                    best = brick;
                }
            }
            return best;
        }

        private void tallyFitting() {
            tally.clear();
            rows.start(now.told);
            for (int row = 0; row < ROWS && rows.next(); row++) {
                tally.add(rows.values);
            }
        }

        int sorts(int brick) {
            int bits = 0;
            for (int kind = 0; kind < kinds.length; kind++) {
                if (canBe(brick, kinds[kind])) {
                    bits |= 1 << kind;
                }
            }
            return bits;
        }

        private boolean canBe(int brick, Brick kind) {
            for (int place = 0; place < now.sights && place < now.seen.length; place++) {
                Sight sight = now.seen[place];
                if (sight != null && sight.isOf(brick) && !sight.allows(kind)) {
                    return false;
                }
            }
            return true;
        }

        int nextTry(int sorts) {
            if (sorts == 0) {
                return NONE;
            }
            int best = NONE;
            int fewest = KINDS + 1;
            for (int pair = 0; pair < PAIRS && fewest > 1; pair++) {
                int worst = mostAlike(sorts, pair / DIGITS, pair % DIGITS);
                if (worst < fewest) {
                    fewest = worst;
                    best = pair;
                }
            }
            return best;
        }

        /** How many of these KINDS, at worst, make the same of two. */
        private int mostAlike(int sorts, int left, int right) {
            int most = 0;
            for (int kind = 0; kind < kinds.length; kind++) {
                if ((sorts >> kind & 1) != 0) {
                    most = Math.max(most, manyMaking(sorts, left, right, kinds[kind].made(left, right)));
                }
            }
            return most;
        }

        private int manyMaking(int sorts, int left, int right, int number) {
            int many = 0;
            for (int kind = 0; kind < kinds.length; kind++) {
                if ((sorts >> kind & 1) != 0 && kinds[kind].made(left, right) == number) {
                    many++;
                }
            }
            return many;
        }

        /** Guesses FIGURES by a SEED: the SEED then. */
        int draw(int seed) {
            int next = seed;
            for (int figure = 0; figure < wide; figure++) {
                next = (int) (1103515245L * next + 12345L & Integer.MAX_VALUE);
                guess[figure] = next / 65536 % DIGITS;
            }
            raise(guess);
            return next;
        }
    }
}
