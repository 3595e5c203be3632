import java.math.BigInteger;

/** Each promise of the document by itself: ordinary inputs, its edges, its refusals and their order. */
public final class PromiseTest {
    private static final int NONE = -1, UNKNOWN = -101, OUTSIDE = -102, STATE = -103, FULL = -104;
    private static final int LOW = Integer.MIN_VALUE, HIGH = Integer.MAX_VALUE;
    /** 9 0 7 5, upon it 18 7 9, upon it 18 16, upon it 52. */
    private static final String FOUR = "4;wgl,ms,w;9075";
    /** 1 2 3, upon it 3 1, upon it 3. */
    private static final String THREE = "3;sg,m;123";

    private static int wrong = 0;

    private PromiseTest() {
    }

    public static void main(String[] args) {
        constants();
        newObject();
        letter();
        blank();
        fault();
        pile();
        brick();
        as();
        makes();
        put();
        exchange();
        change();
        tell();
        hush();
        swing();
        order();
        need();
        left();
        fits();
        look();
        odds();
        see();
        tries();
        forget();
        drawn();
        image();
        restore();
        count();
        digest();
        System.out.println(wrong == 0 ? "all answers are as due" : wrong + " answers are not as due");
        if (wrong != 0) {
            System.exit(1);
        }
    }

    private static void due(String call, long got, long want) {
        if (got != want) {
            wrong++;
            System.out.println(call + " answered " + got + ", due is " + want);
        }
    }

    private static NumberPile page(String text) {
        NumberPile x = new NumberPile();
        type(x, text);
        return x;
    }

    private static void type(NumberPile x, String text) {
        for (int i = 0; i < text.length(); i++) {
            x.letter(text.charAt(i));
        }
    }

    private static NumberPile of(String text) {
        NumberPile x = page(text);
        x.pile();
        return x;
    }

    private static void constants() {
        due("NONE", NumberPile.NONE, NONE);
        due("UNKNOWN", NumberPile.UNKNOWN, UNKNOWN);
        due("OUTSIDE", NumberPile.OUTSIDE, OUTSIDE);
        due("STATE", NumberPile.STATE, STATE);
        due("FULL", NumberPile.FULL, FULL);
    }

    private static void newObject() {
        NumberPile x = new NumberPile();
        for (int what = 0; what < 12; what++) {
            due("1: count(" + what + ")", x.count(what), what == 2 ? NONE : 0);
        }
        due("1: brick", x.brick(0, 0), UNKNOWN);
        due("1: as", x.as(0, 0), UNKNOWN);
        due("1: makes", x.makes(0, 0, 0), UNKNOWN);
        due("1: put", x.put(0, 0), UNKNOWN);
        due("1: exchange", x.exchange(0, 1), UNKNOWN);
        due("1: change", x.change(0, 0), UNKNOWN);
        due("1: tell", x.tell(0, 0), UNKNOWN);
        due("1: hush", x.hush(0), UNKNOWN);
        due("1: swing", x.swing(0), UNKNOWN);
        due("1: odds", x.odds(0, 0, 0), UNKNOWN);
        due("1: see", x.see(0, 0, 0, 0), UNKNOWN);
        due("1: order", x.order(0), STATE);
        due("1: need", x.need(0, 0), STATE);
        due("1: left", x.left(), STATE);
        due("1: fits", x.fits(0), STATE);
        due("1: look", x.look(), STATE);
        due("1: drawn", x.drawn(1, 0, 0), STATE);
        due("1: image", x.image(), STATE);
        due("1: restore", x.restore(), STATE);
        due("1: pile", x.pile(), STATE);
        due("1: fault", x.fault(), 0);
        due("1: blank", x.blank(), 0);
        due("1: forget", x.forget(), 0);
    }

    private static void letter() {
        NumberPile x = new NumberPile();
        due("2: letter(0)", x.letter(0), OUTSIDE);
        due("2: letter(-1)", x.letter(-1), OUTSIDE);
        due("2: letter(127)", x.letter(127), OUTSIDE);
        due("2: letter(LOW)", x.letter(LOW), OUTSIDE);
        due("2: letter(HIGH)", x.letter(HIGH), OUTSIDE);
        due("2: letter(65537)", x.letter(65537), OUTSIDE);
        due("2: letter(1)", x.letter(1), 1);
        due("2: letter(126)", x.letter(126), 2);
        for (int i = 3; i <= 18; i++) {
            due("2: letter " + i, x.letter('s'), i);
        }
        due("2: the 19th", x.letter('s'), FULL);
        due("2: the 19th, a wrong one", x.letter(0), OUTSIDE);
        due("2: none came", x.count(8), 18);
    }

    private static void blank() {
        NumberPile x = page("2;s");
        due("3: blank", x.blank(), 3);
        due("3: blank again", x.blank(), 0);
        due("3: letters", x.count(8), 0);
        type(x, "2;s;12");
        due("3: a page from the start", x.pile(), 3);
    }

    private static void fault() {
        String[] whole = {"", "2", "3", "4", "2;", "2;s;12", "2;g;09", "2;m;90", "2;w;55", "2;l;00",
            "3;sg,m;123", "3;wl,s;9", "3;ww", "4;sgm,wl,s;1234", "4;lll,lll".substring(0, 8)};
        for (String text : whole) {
            due("4: " + text, page(text).fault(), text.length());
        }
        Object[][] broken = {{"1", 0}, {"5", 0}, {"0", 0}, {"9", 0}, {";", 0}, {" 2", 0}, {"s", 0},
            {"2s", 1}, {"22", 1}, {"2,s", 1}, {"2;;", 2}, {"2;S;12", 2}, {"2;x", 2}, {"2;1", 2}, {"2;K", 2},
            {"2;D", 2}, {"2;ss", 3}, {"2;s,", 3}, {"2;s1", 3}, {"2;s;s", 4}, {"2;s;/", 4}, {"2;s;:", 4},
            {"2;s;D", 4}, {"2;s;1;", 5}, {"2;s;123", 6}, {"2;s;12;", 6}, {"3;s,", 3}, {"3;sss", 4}, {"3;ss;", 4},
            {"3;ss,;", 5}, {"3;ss,s,", 6}, {"3;ss,ss", 6}, {"3;ss,s;12a", 9}, {"3;ss,s;1234", 10},
            {"4;sss;", 5}, {"4;sss,sss", 8}, {"4;sss,ss;", 8}, {"4;sss,ss,ss", 10}, {"4;sss,ss,s,", 10},
            {"4;sss,ss,s;12345", 15}, {"4;sss,ss,s;123456", 15}, {"2;s;12x;", 6}, {"5;x;", 0}};
        for (Object[] one : broken) {
            due("4: " + one[0], page((String) one[0]).fault(), (Integer) one[1]);
        }
    }

    private static void pile() {
        due("5: 2", page("2;s;12").pile(), 3);
        due("5: 3", page(THREE).pile(), 6);
        due("5: 4", page(FOUR).pile(), 10);
        String[] none = {"", "2", "2;s;1", "2;s;123", "2;x;12", "3;ss,s;12", "4;sss,ss,s;123", "5;s;12"};
        for (String text : none) {
            NumberPile x = page(text);
            due("5: " + text, x.pile(), STATE);
            due("5: the page stays", x.count(8), text.length());
            due("5: no pile was read", x.count(9), 0);
            due("5: no pile", x.count(0), 0);
        }
        pileAnew();
    }

    private static void pileAnew() {
        NumberPile x = of(FOUR);
        due("5: the page is empty", x.count(8), 0);
        x.put(0, 1);
        x.tell(9, 40);
        x.see(9, 1, 1, 2);
        x.image();
        x.need(3, 0);
        x.look();
        x.look();
        type(x, "3;ss,");
        due("5: a refusal", x.pile(), STATE);
        due("5: and the other one stays", x.count(1), 10);
        due("5: what is told, too", x.brick(9, 4), 40);
        due("5: the image, too", x.restore(), 1);
        type(x, "g;987");
        due("5: another one", x.pile(), 6);
        due("5: how wide", x.count(0), 3);
        due("5: its top", x.count(2), 2);
        due("5: nothing told", x.count(4), 0);
        due("5: nothing told of the top", x.brick(5, 4), NONE);
        due("5: no change", x.count(6), 0);
        due("5: nothing seen", x.count(7), 0);
        due("5: read twice", x.count(9), 2);
        due("5: need() was done", x.count(10), 1);
        due("5: look() was done", x.count(11), 2);
        due("5: all fit", x.left(), 1000);
        due("5: the old image is gone", x.restore(), STATE);
        due("5: brick 6 is gone", x.brick(6, 0), UNKNOWN);
        type(x, "3;ss,g;987");
        x.image();
        x.pile();
        due("5: the same text is another one", x.restore(), STATE);
    }

    private static void brick() {
        NumberPile x = of(FOUR);
        int[] kinds = {NONE, NONE, NONE, NONE, 3, 1, 4, 2, 0, 3};
        int[] great = {9, 0, 7, 5, 18, 7, 9, 18, 16, 52};
        int[] left = {NONE, NONE, NONE, NONE, 0, 1, 2, 4, 5, 7};
        int[] right = {NONE, NONE, NONE, NONE, 1, 2, 3, 5, 6, 8};
        for (int b = 0; b < 10; b++) {
            due("6: kind of " + b, x.brick(b, 0), kinds[b]);
            due("6: how great " + b, x.brick(b, 1), great[b]);
            due("6: left of " + b, x.brick(b, 2), left[b]);
            due("6: right of " + b, x.brick(b, 3), right[b]);
            due("6: told of " + b, x.brick(b, 4), NONE);
            due("6: sorts of " + b, x.brick(b, 5), b < 4 ? 0 : 31);
            due("6: try of " + b, x.brick(b, 6), b < 4 ? NONE : 18);
        }
        NumberPile y = of(THREE);
        due("6: left in 3", y.brick(4, 2), 1);
        due("6: right in 3", y.brick(4, 3), 2);
        due("6: left of the top in 3", y.brick(5, 2), 3);
        due("6: right of the top in 3", y.brick(5, 3), 4);
        x.tell(0, 999);
        x.tell(9, 0);
        due("6: told 999", x.brick(0, 4), 999);
        due("6: told 0", x.brick(9, 4), 0);
        due("6: it is as it was", x.brick(0, 1), 9);
        due("6: brick -1", x.brick(-1, 0), UNKNOWN);
        due("6: brick 10", x.brick(10, 0), UNKNOWN);
        due("6: brick LOW", x.brick(LOW, 0), UNKNOWN);
        due("6: brick HIGH", x.brick(HIGH, HIGH), UNKNOWN);
        due("6: what -1", x.brick(0, -1), OUTSIDE);
        due("6: what 7", x.brick(9, 7), OUTSIDE);
        due("6: both", x.brick(10, 7), UNKNOWN);
    }

    private static void as() {
        NumberPile x = of(FOUR);
        boolean[][] such = {
            {true, false, false, true, false}, {true, true, false, false, false},
            {true, false, false, true, true}, {true, false, true, false, false},
            {true, false, false, false, false}, {true, false, false, true, false}};
        for (int kind = 0; kind < 5; kind++) {
            for (int b = 0; b < 4; b++) {
                due("7: a figure as " + kind, x.as(b, kind), NONE);
            }
            for (int b = 4; b < 10; b++) {
                due("7: " + b + " as " + kind, x.as(b, kind), such[b - 4][kind] ? b : NONE);
            }
        }
        due("7: brick -1", x.as(-1, 0), UNKNOWN);
        due("7: brick 10", x.as(10, 0), UNKNOWN);
        due("7: kind -1", x.as(9, -1), OUTSIDE);
        due("7: kind 5", x.as(9, 5), OUTSIDE);
        due("7: a figure as 5", x.as(0, 5), OUTSIDE);
        due("7: both", x.as(HIGH, LOW), UNKNOWN);
    }

    private static void makes() {
        NumberPile x = of(FOUR);
        due("8: twice", x.makes(4, 2, 3), 7);
        due("8: gap", x.makes(5, 2, 9), 7);
        due("8: gap, the other way", x.makes(5, 9, 2), 7);
        due("8: gap of like ones", x.makes(5, 4, 4), 0);
        due("8: last", x.makes(6, 9, 9), 7);
        due("8: last of a small one", x.makes(6, 2, 3), 7);
        due("8: last of ten", x.makes(6, 5, 0), 0);
        due("8: more", x.makes(7, 2, 9), 9);
        due("8: more, the other way", x.makes(7, 9, 2), 9);
        due("8: both together", x.makes(8, 9, 9), 18);
        due("8: the top", x.makes(9, 9, 0), 18);
        due("8: nought", x.makes(9, 0, 0), 0);
        due("8: nothing is done", x.count(2), 52);
        due("8: a figure", x.makes(3, 0, 0), UNKNOWN);
        due("8: brick 10", x.makes(10, 0, 0), UNKNOWN);
        due("8: brick -1", x.makes(-1, 0, 0), UNKNOWN);
        due("8: left -1", x.makes(4, -1, 0), OUTSIDE);
        due("8: left 10", x.makes(4, 10, 0), OUTSIDE);
        due("8: right -1", x.makes(4, 0, -1), OUTSIDE);
        due("8: right 10", x.makes(4, 0, 10), OUTSIDE);
        due("8: both", x.makes(0, 10, 10), UNKNOWN);
    }

    private static void put() {
        NumberPile x = of(FOUR);
        due("9: put", x.put(1, 9), 65);
        due("9: the brick", x.brick(4, 1), 27);
        due("9: a change", x.count(6), 1);
        due("9: the same again", x.put(1, 9), 65);
        due("9: is a change, too", x.count(6), 2);
        due("9: nought", x.put(1, 0), 52);
        due("9: figure -1", x.put(-1, 0), UNKNOWN);
        due("9: a brick", x.put(4, 0), UNKNOWN);
        due("9: digit -1", x.put(0, -1), OUTSIDE);
        due("9: digit 10", x.put(0, 10), OUTSIDE);
        due("9: both", x.put(4, 10), UNKNOWN);
        due("9: refusals are no changes", x.count(6), 3);
        due("9: nor do they change", x.brick(0, 1), 9);
        full();
    }

    /** More calls than an object is promised for, as the limit can't be met by fewer. */
    private static void full() {
        NumberPile x = of("2;s;12");
        for (int i = 0; i < 9998; i++) {
            x.put(0, 4);
        }
        due("10: exchange, the 9999th", x.exchange(0, 1), 6);
        due("9: full", x.put(0, 9), FULL);
        due("9: outside first", x.put(0, 10), OUTSIDE);
        due("10: full", x.exchange(0, 1), FULL);
        due("10: unknown first", x.exchange(0, 0), UNKNOWN);
        due("9: nothing changed", x.brick(0, 1), 2);
        due("9: 9999 changes", x.count(6), 9999);
    }

    private static void exchange() {
        NumberPile x = of(FOUR);
        due("10: exchange", x.exchange(0, 3), 30);
        due("10: the left one", x.brick(0, 1), 5);
        due("10: the right one", x.brick(3, 1), 9);
        due("10: one change", x.count(6), 1);
        due("10: back", x.exchange(3, 0), 52);
        due("10: the same", x.exchange(2, 2), UNKNOWN);
        due("10: one is -1", x.exchange(-1, 0), UNKNOWN);
        due("10: other is -1", x.exchange(0, -1), UNKNOWN);
        due("10: one is a brick", x.exchange(4, 0), UNKNOWN);
        due("10: other is a brick", x.exchange(0, 4), UNKNOWN);
        due("10: changes", x.count(6), 2);
        NumberPile y = of("2;w;33");
        due("10: like ones", y.exchange(0, 1), 9);
        due("10: are a change, too", y.count(6), 1);
    }

    private static void change() {
        NumberPile x = of(FOUR);
        due("11: change", x.change(9, 0), 3);
        due("11: the top", x.count(2), 34);
        due("11: its kind", x.brick(9, 0), 0);
        due("11: to the same", x.change(9, 0), 0);
        due("11: a low one", x.change(4, 4), 3);
        due("11: goes up", x.count(2), 24);
        due("11: as last", x.as(4, 4), 4);
        due("11: figures did not change", x.count(6), 0);
        due("11: a figure", x.change(3, 0), UNKNOWN);
        due("11: brick 10", x.change(10, 0), UNKNOWN);
        due("11: kind -1", x.change(4, -1), OUTSIDE);
        due("11: kind 5", x.change(4, 5), OUTSIDE);
        due("11: both", x.change(0, 5), UNKNOWN);
        NumberPile y = of("2;s;00");
        y.tell(2, 18);
        due("11: what fits before", y.left(), 1);
        y.change(2, 1);
        due("11: what fits then", y.left(), 0);
        y.change(2, 2);
        due("11: still told", y.brick(2, 4), 18);
    }

    private static void tell() {
        NumberPile x = of(THREE);
        due("12: the top", x.tell(5, 3), manyInThree(3));
        due("12: otherwise", x.tell(5, 0), 1);
        due("12: one is told", x.count(4), 1);
        due("12: a brick", x.tell(3, 0), 1);
        due("12: two are told", x.count(4), 2);
        due("12: none fits", x.tell(3, 1), 0);
        due("12: 999", x.tell(5, 999), 0);
        x.hush(5);
        due("12: 18", x.tell(3, 18), 10);
        due("12: a figure that is so", x.tell(0, 9), 10);
        due("12: a figure that can't be", x.tell(0, 10), 0);
        due("12: number -1", x.tell(0, -1), OUTSIDE);
        due("12: number 1000", x.tell(0, 1000), OUTSIDE);
        due("12: brick -1", x.tell(-1, 0), UNKNOWN);
        due("12: brick 6", x.tell(6, 0), UNKNOWN);
        due("12: both", x.tell(6, 1000), UNKNOWN);
        due("12: as it was told", x.brick(0, 4), 10);
        due("12: the figures stay", x.brick(0, 1), 1);
    }

    private static int manyInThree(int top) {
        int many = 0;
        for (int row = 0; row < 1000; row++) {
            int a = row / 100;
            int b = row / 10 % 10;
            int c = row % 10;
            many += Math.max(a + b, Math.abs(b - c)) == top ? 1 : 0;
        }
        return many;
    }

    private static void hush() {
        NumberPile x = of(THREE);
        due("13: nothing was told", x.hush(5), STATE);
        x.tell(5, 0);
        x.tell(0, 5);
        due("13: one of two", x.hush(5), 100);
        due("13: again", x.hush(5), STATE);
        due("13: the other one", x.hush(0), 1000);
        due("13: nothing is told", x.count(4), 0);
        due("13: of it", x.brick(0, 4), NONE);
        due("13: brick -1", x.hush(-1), UNKNOWN);
        due("13: brick 6", x.hush(6), UNKNOWN);
    }

    private static void swing() {
        NumberPile x = of(FOUR);
        due("14: a nine", x.swing(0), NONE);
        due("14: more", x.swing(1), 1001);
        due("14: less", x.swing(2), 993);
        due("14: less still", x.swing(3), 991);
        due("14: nothing is done", x.count(2), 52);
        due("14: figure -1", x.swing(-1), UNKNOWN);
        due("14: a brick", x.swing(4), UNKNOWN);
        due("14: no change", of("2;m;82").swing(1), 1000);
        due("14: an eight", of("2;m;82").swing(0), 1001);
        due("14: the last figure", of("2;l;45").swing(0), 1000 + 5 - 3);
        due("14: over ten", of("2;l;09").swing(0), 1000 + 1 - 9);
    }

    private static void order() {
        due("15: most", of("2;w;47").order(0), 18);
        due("15: figures", of("2;w;47").order(1), 74);
        due("15: of like ones the least", of("2;s;74").order(1), 47);
        NumberPile x = of("3;ss,s;101");
        due("15: the middle one counts twice", x.order(0), 3);
        due("15: noughts ahead", x.order(1), 11);
        due("15: nothing is done", x.brick(0, 1), 1);
        due("15: nor counted", x.count(6), 0);
        due("15: four weigh 8, 12, 6, 1", of("4;www,ww,w;1234").order(0), 3 * 8 + 4 * 12 + 2 * 6 + 1);
        due("15: the heaviest has the greatest", of("4;www,ww,w;1234").order(1), 3421);
        due("15: noughts alone", of("2;g;00").order(1), 0);
        due("15: nines that make nought", of("4;ggg,gg,g;9999").order(0), 0);
        due("15: nines alone", of("4;ggg,gg,g;9999").order(1), 9999);
        due("15: what -1", x.order(-1), OUTSIDE);
        due("15: what 2", x.order(2), OUTSIDE);
        due("15: no pile", new NumberPile().order(1), STATE);
        due("15: both", new NumberPile().order(2), OUTSIDE);
    }

    private static void need() {
        NumberPile x = of("2;s;47");
        int[][] dues = {{11, 0, 47}, {12, 1, 48}, {13, 1, 49}, {14, 1, 77}, {0, 2, 0}, {18, 2, 99}, {4, 1, 40},
            {19, NONE, NONE}, {999, NONE, NONE}};
        for (int[] one : dues) {
            due("16: how many for " + one[0], x.need(one[0], 0), one[1]);
            due("16: figures for " + one[0], x.need(one[0], 1), one[2]);
        }
        due("16: nothing is done", x.brick(0, 1), 4);
        due("16: it was done", x.count(10), 18);
        due("16: number -1", x.need(-1, 0), OUTSIDE);
        due("16: number 1000", x.need(1000, 0), OUTSIDE);
        due("16: what -1", x.need(0, -1), OUTSIDE);
        due("16: what 2", x.need(0, 2), OUTSIDE);
        due("16: refusals are not done", x.count(10), 18);
        x.need(1, 0);
        due("16: the 20th", x.need(1, 1), 1);
        due("16: the 21st", x.need(1, 1), STATE);
        due("16: outside first", x.need(1000, 1), OUTSIDE);
        due("16: 20 times", x.count(10), 20);
        due("16: what fits is not touched", x.left(), 100);
        due("16: no pile", new NumberPile().need(0, 0), STATE);
        due("16: both", new NumberPile().need(0, 2), OUTSIDE);
        NumberPile y = of("2;s;47");
        y.tell(2, 3);
        y.need(18, 0);
        due("16: what is told is another matter", y.need(18, 1), 99);
        due("16: and stays", y.left(), 4);
    }

    private static void left() {
        due("17: 2", of("2;s;47").left(), 100);
        due("17: 3", of(THREE).left(), 1000);
        NumberPile x = of(FOUR);
        due("17: 4", x.left(), 10000);
        x.tell(9, 0);
        due("17: the top is nought", x.left(), manyNought());
        due("17: no pile", new NumberPile().left(), STATE);
    }

    /** Of FOUR the top is nought only if all below it are, but for those that a gap or a last one hides. */
    private static int manyNought() {
        int many = 0;
        for (int row = 0; row < 10000; row++) {
            int a = row / 1000;
            int b = row / 100 % 10;
            int c = row / 10 % 10;
            int d = row % 10;
            boolean left = 2 * a + b == 0 && b == c;
            boolean right = b == c && (2 * c + d) % 10 == 0;
            many += left && right ? 1 : 0;
        }
        return many;
    }

    private static void fits() {
        NumberPile x = of("2;s;00");
        due("18: the first of all", x.fits(0), 0);
        due("18: the last of all", x.fits(99), 99);
        due("18: no more", x.fits(100), NONE);
        x.tell(2, 3);
        int[] rows = {3, 12, 21, 30, NONE, NONE};
        for (int i = 0; i < rows.length; i++) {
            due("18: fits(" + i + ")", x.fits(i), rows[i]);
        }
        due("18: far off", x.fits(HIGH), NONE);
        due("18: -1", x.fits(-1), OUTSIDE);
        due("18: LOW", x.fits(LOW), OUTSIDE);
        due("18: no pile", new NumberPile().fits(0), STATE);
        due("18: both", new NumberPile().fits(-1), OUTSIDE);
        due("18: four", of(FOUR).fits(9999), 9999);
    }

    private static void look() {
        NumberPile x = of("2;w;00");
        due("19: the top tells most", x.look(), 2);
        x.tell(2, 9);
        due("19: of like ones the least", x.look(), 0);
        x.tell(0, 0);
        due("19: one that is not told", x.look(), 1);
        x.tell(1, 9);
        due("19: all are told", x.look(), NONE);
        x.hush(1);
        x.tell(0, 5);
        due("19: none fits", x.look(), NONE);
        due("19: how often", x.count(11), 5);
        x.hush(0);
        for (int i = 5; i < 20; i++) {
            due("19: look " + i, x.look(), 0);
        }
        due("19: the 21st", x.look(), STATE);
        due("19: 20 times", x.count(11), 20);
        due("19: of like ones the least, of all", of("2;s;00").look(), 0);
        due("19: no pile", new NumberPile().look(), STATE);
        NumberPile y = of("2;l;00");
        y.tell(2, 0);
        due("19: the left one decides, the right one is even", y.look(), 0);
        y.change(2, 1);
        y.tell(2, 9);
        due("19: 09 or 90", y.look(), 0);
        NumberPile z = of("3;ss,s;000");
        z.tell(3, 0);
        due("19: two are nought for sure, the third one tells all", z.look(), 2);
        NumberPile great = of("4;www,ww,w;9999");
        due("19: up to 243", great.look(), 9);
        great.tell(9, 243);
        due("19: all are known, none is told", great.look(), 0);
    }

    private static void odds() {
        NumberPile x = of("2;s;00");
        due("20: one", x.odds(0, 3, 0), 1);
        due("20: of ten", x.odds(0, 3, 1), 10);
        x.tell(2, 3);
        due("20: one", x.odds(1, 3, 0), 1);
        due("20: of four", x.odds(1, 3, 1), 4);
        due("20: none", x.odds(0, 4, 0), 0);
        due("20: in lowest terms", x.odds(0, 4, 1), 1);
        x.change(2, 2);
        due("20: more, four", x.odds(0, 3, 0), 4);
        due("20: more, of seven", x.odds(0, 3, 1), 7);
        x.change(2, 4);
        x.tell(2, 0);
        due("20: 2 of 10 is 1", x.odds(1, 0, 0), 1);
        due("20: 2 of 10 is of 5", x.odds(1, 0, 1), 5);
        due("20: odd ones never", x.odds(1, 9, 0), 0);
        x.tell(0, 2);
        due("20: sure", x.odds(1, 6, 0), 1);
        due("20: of one", x.odds(1, 6, 1), 1);
        x.tell(2, 10);
        due("20: none fits, 0", x.odds(0, 2, 0), 0);
        due("20: none fits, of 1", x.odds(0, 2, 1), 1);
        due("20: figure -1", x.odds(-1, 0, 0), UNKNOWN);
        due("20: a brick", x.odds(2, 0, 0), UNKNOWN);
        due("20: digit -1", x.odds(0, -1, 0), OUTSIDE);
        due("20: digit 10", x.odds(0, 10, 0), OUTSIDE);
        due("20: what -1", x.odds(0, 0, -1), OUTSIDE);
        due("20: what 2", x.odds(0, 0, 2), OUTSIDE);
        due("20: both", x.odds(2, 10, 2), UNKNOWN);
    }

    private static void see() {
        NumberPile x = of(THREE);
        due("21: the first", x.see(3, 1, 8, 8), 1);
        due("21: it is a more", x.brick(3, 5), 4);
        due("21: of another one nothing is seen", x.brick(4, 5), 31);
        due("21: its kind is another matter", x.brick(3, 0), 0);
        due("21: the second, of another one", x.see(4, 2, 3, 7), 2);
        due("21: twice or last", x.brick(4, 5), 24);
        due("21: the third", x.see(4, 9, 9, 27), 3);
        due("21: twice", x.brick(4, 5), 8);
        due("21: the same again", x.see(4, 9, 9, 27), 4);
        due("21: the fifth", x.see(5, 0, 0, 30), 5);
        due("21: no kind", x.brick(5, 5), 0);
        due("21: number -1", x.see(5, 0, 0, -1), OUTSIDE);
        due("21: number 31", x.see(5, 0, 0, 31), OUTSIDE);
        due("21: left -1", x.see(5, -1, 0, 0), OUTSIDE);
        due("21: left 10", x.see(5, 10, 0, 0), OUTSIDE);
        due("21: right -1", x.see(5, 0, -1, 0), OUTSIDE);
        due("21: right 10", x.see(5, 0, 10, 0), OUTSIDE);
        due("21: a figure", x.see(2, 0, 0, 0), UNKNOWN);
        due("21: brick 6", x.see(6, 0, 0, 0), UNKNOWN);
        due("21: unknown first", x.see(2, 10, 10, 31), UNKNOWN);
        due("21: five are seen", x.count(7), 5);
        due("21: the sixth", x.see(3, 9, 9, 9), 6);
        due("21: the seventh", x.see(3, 9, 9, 9), FULL);
        due("21: outside first", x.see(3, 9, 9, 31), OUTSIDE);
        due("21: unknown before full", x.see(0, 9, 9, 9), UNKNOWN);
        due("21: six are seen", x.count(7), 6);
    }

    private static void tries() {
        NumberPile x = of("2;s;00");
        due("6: of all five", x.brick(2, 6), 18);
        x.see(2, 5, 0, 5);
        due("6: both together, gap, more", x.brick(2, 5), 7);
        due("6: try of these", x.brick(2, 6), 11);
        x.see(2, 0, 0, 0);
        due("6: nothing new", x.brick(2, 6), 11);
        x.see(2, 1, 1, 2);
        due("6: a sum", x.brick(2, 5), 1);
        due("6: try of one", x.brick(2, 6), 0);
        x.see(2, 1, 1, 1);
        due("6: none", x.brick(2, 5), 0);
        due("6: try of none", x.brick(2, 6), NONE);
        x.forget();
        x.see(2, 2, 3, 7);
        due("6: try of twice and last", x.brick(2, 6), 18);
        x.forget();
        x.see(2, 4, 8, 6);
        due("6: last alone", x.brick(2, 5), 16);
        x.forget();
        x.see(2, 4, 8, 4);
        due("6: gap alone", x.brick(2, 5), 2);
        x.forget();
        x.see(2, 4, 3, 1);
        due("6: gap or last", x.brick(2, 5), 18);
        due("6: try of gap and last", x.brick(2, 6), 10);
        x.forget();
        x.see(2, 5, 5, 5);
        due("6: more or last", x.brick(2, 5), 20);
        due("6: try of more and last", x.brick(2, 6), 10);
    }

    private static void forget() {
        NumberPile x = of("2;s;00");
        x.see(2, 1, 8, 8);
        x.see(2, 1, 8, 7);
        due("22: two", x.forget(), 2);
        due("22: then none", x.forget(), 0);
        due("22: count", x.count(7), 0);
        due("22: all sorts", x.brick(2, 5), 31);
        due("22: from the start", x.see(2, 1, 8, 9), 1);
        due("22: the new one", x.brick(2, 5), 1);
    }

    private static void drawn() {
        String[] texts = {"2;w;12", THREE, FOUR};
        int[] seeds = {0, 1, 971, 65535, HIGH};
        for (String text : texts) {
            for (int seed : seeds) {
                for (int times : new int[] {1, 2, 60}) {
                    drawnAs(text, times, seed);
                }
            }
        }
        for (int seed = 0; seed < 40; seed++) {
            drawnAs("2;g;12", 1, seed); // some of these make nought
        }
        NumberPile x = of(THREE);
        due("23: times 0", x.drawn(0, 0, 0), OUTSIDE);
        due("23: times 61", x.drawn(61, 0, 0), OUTSIDE);
        due("23: seed -1", x.drawn(1, -1, 0), OUTSIDE);
        due("23: what -1", x.drawn(1, 0, -1), OUTSIDE);
        due("23: what 3", x.drawn(1, 0, 3), OUTSIDE);
        due("23: no pile", new NumberPile().drawn(1, 0, 2), STATE);
        due("23: both", new NumberPile().drawn(0, 0, 0), OUTSIDE);
    }

    private static void drawnAs(String text, int times, int seed) {
        NumberPile x = of(text);
        NumberPile shown = of(text);
        BigInteger next = BigInteger.valueOf(seed);
        int together = 0;
        int greatest = 0;
        for (int time = 0; time < times; time++) {
            int top = 0;
            for (int figure = 0; figure < x.count(0); figure++) {
                next = next.multiply(BigInteger.valueOf(1103515245)).add(BigInteger.valueOf(12345))
                    .mod(BigInteger.TWO.pow(31));
                top = shown.put(figure, next.divide(BigInteger.valueOf(65536)).mod(BigInteger.TEN).intValue());
            }
            together += top;
            greatest = Math.max(greatest, top);
        }
        String call = "23: " + text + " " + times + " times by " + seed;
        due(call + ", together", x.drawn(times, seed, 0), together);
        due(call + ", greatest", x.drawn(times, seed, 1), greatest);
        due(call + ", seed", x.drawn(times, seed, 2), next.intValueExact());
        due(call + ", as they would be", x.count(6), 0);
        due(call + ", the figures stay", x.digest(), of(text).digest());
    }

    private static void image() {
        NumberPile x = of(THREE);
        due("24: no change yet", x.image(), 0);
        x.put(0, 5);
        x.put(0, 6);
        due("24: the latest", x.image(), 2);
        x.put(0, 7);
        due("24: is kept", x.restore(), 2);
        due("24: its figure", x.brick(0, 1), 6);
        due("24: no pile", new NumberPile().image(), STATE);
    }

    private static void restore() {
        NumberPile x = of(FOUR);
        due("25: none was kept", x.restore(), STATE);
        x.put(3, 4);
        x.tell(9, 50);
        x.tell(0, 9);
        x.see(4, 2, 3, 7);
        x.change(8, 2);
        x.image();
        long kept = x.digest();
        x.put(0, 0);
        x.exchange(1, 2);
        x.change(8, 1);
        x.change(4, 0);
        x.tell(9, 3);
        x.hush(0);
        x.tell(5, 1);
        x.forget();
        x.see(5, 0, 0, 1);
        x.see(4, 0, 0, 1);
        due("25: changes", x.restore(), 1);
        due("25: all is as it was", x.digest(), kept);
        due("25: the figure", x.brick(3, 1), 4);
        due("25: the kind", x.brick(8, 0), 2);
        due("25: told", x.brick(9, 4), 50);
        due("25: told of a figure", x.brick(0, 4), 9);
        due("25: not told", x.brick(5, 4), NONE);
        due("25: seen", x.brick(4, 5), 24);
        due("25: not seen", x.brick(5, 5), 31);
        due("25: how much is seen", x.count(7), 1);
        x.forget();
        x.see(4, 0, 0, 1);
        due("25: once more", x.restore(), 1);
        due("25: as it was kept", x.digest(), kept);
        x.need(1, 1);
        x.look();
        x.letter('2');
        x.restore();
        due("25: need() is not kept", x.count(10), 1);
        due("25: look() is not kept", x.count(11), 1);
        due("25: the page is not kept", x.count(8), 1);
        due("25: nor how often a pile was read", x.count(9), 1);
        type(x, ";s;12");
        x.pile();
        due("25: another pile since", x.restore(), STATE);
        due("25: a new image", x.image(), 0);
        due("25: is good", x.restore(), 0);
    }

    private static void count() {
        NumberPile x = of(FOUR);
        x.put(0, 9);
        x.tell(9, 52);
        x.tell(0, 9);
        x.tell(1, 4);
        x.see(4, 0, 0, 0);
        x.see(4, 0, 0, 1);
        x.letter('2');
        x.letter(';');
        x.letter('x');
        x.need(3, 0);
        x.need(3, 1);
        x.need(900, 1);
        x.look();
        x.look();
        int[] dues = {4, 10, 52, 141, 3, 2, 1, 2, 3, 1, 3, 2};
        for (int what = 0; what < dues.length; what++) {
            due("26: count(" + what + ")", x.count(what), dues[what]);
        }
        due("26: -1", x.count(-1), OUTSIDE);
        due("26: 12", x.count(12), OUTSIDE);
        due("26: LOW", x.count(LOW), OUTSIDE);
        x.put(1, 4);
        due("26: told ones that are so now", x.count(5), 2);
        due("26: in 3", of(THREE).count(3), 13);
    }

    private static void digest() {
        NumberPile x = new NumberPile();
        due("27: no pile", x.digest(), digestOf(x, ""));
        type(x, "3;~");
        due("27: no pile, a page", x.digest(), digestOf(x, "3;~"));
        NumberPile y = of(FOUR);
        due("27: a pile", y.digest(), digestOf(y, ""));
        type(y, "2;s;12");
        y.tell(9, 52);
        y.see(4, 2, 3, 7);
        y.put(0, 3);
        y.look();
        y.need(4, 0);
        due("27: much done", y.digest(), digestOf(y, "2;s;12"));
        due("27: it does nothing", y.digest(), digestOf(y, "2;s;12"));
        y.tell(9, 999);
        due("27: none fits", y.digest(), digestOf(y, "2;s;12"));
    }

    private static long digestOf(NumberPile x, String page) {
        long h = 1327;
        for (int b = 0; b < x.count(1); b++) {
            for (int what = 0; what <= 6; what++) {
                h = 31 * h + x.brick(b, what);
            }
        }
        for (int f = 0; f < x.count(0); f++) {
            h = 31 * h + x.swing(f);
            h = 31 * h + x.odds(f, 3, 0);
            h = 31 * h + x.odds(f, 3, 1);
        }
        if (x.count(0) > 0) {
            h = 31 * h + x.order(0);
            h = 31 * h + x.order(1);
            h = 31 * h + x.left();
            h = 31 * h + x.fits(0);
        }
        for (char letter : page.toCharArray()) {
            h = 31 * h + letter;
        }
        for (int what = 0; what <= 11; what++) {
            h = 31 * h + x.count(what);
        }
        return h;
    }
}
