/** Term 8 and promises 31 and 32: the lines that filters have. */
public final class FilterEdgesTest {
    private static final int MOST = Integer.MAX_VALUE;
    private static final int LEAST = Integer.MIN_VALUE;

    /** What begins an F and is one by itself; what begins an F that goes on; what stands between two. */
    private static final String WHOLE = "0123456789xywhnts";
    private static final String BEGUN = "-(amMi";
    private static final String SIGNS = "+-*/%";

    public static void main(String[] args) {
        everyByteAtFirst();
        everyByteBehind();
        everyByteInNumbers();
        digits();
        depth();
        depthInArguments();
        depthEnds();
        blanks();
        longestText();
        tooSoon();
        sums();
        products();
        divided();
        wrapped();
        farSamples();
        lesserAndGreater();
        chosen();
        heldValues();
        ofPlanes();
        eightFilters();
        sixtyPictures();
        Check.end("FilterEdgesTest");
    }

    private static int filter(String text) {
        House house = new House();
        Check.text(house, text);
        int answer = house.filter();
        Check.due("31: the tape is empty then", house.count(5), 0);
        Check.due("31: filters", house.count(2), answer >= 0 ? 1 : 0);
        return answer;
    }

    private static void right(String text) {
        Check.due("31: '" + text + "'", filter(text), 0);
    }

    private static void wrong(String text, int place) {
        Check.due("31: '" + text + "'", filter(text), -1 - place);
    }

    /** "WRONG is the first byte that can't be there (the length, if it ends too soon": each byte there is. */
    private static void everyByteAtFirst() {
        String[] ahead = {"", " ", "-", "(", "x+", "x-", "x*", "x/", "x%", "a(", "m(", "M(", "i(", "a(x,", "m(x,", "M(x,",
            "i(x,", "i(x,y,", "--", "( ", "(((("};
        for (String begun : ahead) {
            for (int b = 0; b < 256; b++) {
                String text = begun + (char) b;
                boolean fine = WHOLE.indexOf(b) >= 0;
                boolean goesOn = fine || BEGUN.indexOf(b) >= 0 || b == ' ';
                boolean open = begun.indexOf('(') >= 0;
                if (fine && !open) {
                    right(text);
                } else {
                    wrong(text, goesOn ? text.length() : text.length() - 1);
                }
            }
        }
        String[] names = {"a", "m", "M", "i", "a ", "1+i"};
        for (String begun : names) {
            for (int b = 0; b < 256; b++) {
                String text = begun + (char) b;
                wrong(text, b == '(' || b == ' ' ? text.length() : text.length() - 1);
            }
        }
    }

    /** Behind a whole F: signs, blanks, and within ( ) what is due there. */
    private static void everyByteBehind() {
        String[] ahead = {"x", "x ", "(x)", "-y", "1+s", "(x", "((x)", "a(x", "a(x,y", "m(x", "M(x,y", "i(x", "i(x,y", "i(x,y,w",
            "a(1,2)", "i(1,2,3)"};
        String[] due = {"", "", "", "", "", ")", ")", ",", ")", ",", ")", ",", ",", ")", "", ""};
        for (int i = 0; i < ahead.length; i++) {
            for (int b = 0; b < 256; b++) {
                String text = ahead[i] + (char) b;
                boolean closes = due[i].indexOf(b) >= 0;
                boolean whole = due[i].isEmpty() && b == ' ' || closes && b == ')';
                boolean goesOn = SIGNS.indexOf(b) >= 0 || b == ' ' || closes;
                if (whole) {
                    right(text);
                } else {
                    wrong(text, goesOn ? text.length() : text.length() - 1);
                }
            }
        }
    }

    private static void everyByteInNumbers() {
        for (int b = 0; b < 256; b++) {
            String text = "12" + (char) b;
            if (b >= '0' && b <= '9' || b == ' ') {
                right(text);
            } else {
                wrong(text, SIGNS.indexOf(b) >= 0 ? 3 : 2);
            }
        }
    }

    /** "number (1 to 5 digits)", "a sixth digit". */
    private static void digits() {
        right("1");
        right("12345");
        right("00000");
        wrong("123456", 5);
        wrong("000000", 5);
        wrong("1234567890", 5);
        wrong("x+123456", 7);
        wrong("(123456)", 6);
        wrong("1234 5", 5);
        wrong("12345 6", 6);
        right("12345+12345");
        Check.due("32: 00255", value("00255", 0), 255);
        Check.due("32: 99999", value("99999-99998", 0), 1);
    }

    /** "a ( (of a, m, M, i, too) or a - of F that lies within 12 of these". */
    private static void depth() {
        String[] open = {"(", "-", "a(1,", "a(", "m(1,", "M(1,", "i(1,2,", "i(1,", "i("};
        String[] close = {")", "", ")", ",1)", ")", ")", ")", ",2)", ",1,2)"};
        int[] bracket = {0, 0, 1, 1, 1, 1, 1, 1, 1};
        for (int i = 0; i < open.length; i++) {
            for (int many = 11; many <= 14; many++) {
                String text = open[i].repeat(many) + "x" + close[i].repeat(many);
                if (many <= 12) {
                    right(text);
                } else {
                    wrong(text, 12 * open[i].length() + bracket[i]);
                }
            }
            wrong("(".repeat(12) + open[i] + "x" + close[i] + ")".repeat(12), 12 + bracket[i]);
            wrong("-".repeat(12) + open[i] + "x" + close[i], 12 + bracket[i]);
            right("(".repeat(11) + open[i] + "x" + close[i] + ")".repeat(11));
            right("-".repeat(11) + open[i] + "x" + close[i]);
        }
        wrong("-(".repeat(6) + "-x" + ")".repeat(6), 12);
        right("-(".repeat(6) + "x" + ")".repeat(6));
        wrong("(".repeat(12) + "a x" + ")".repeat(12), 14);
    }

    /** Each argument lies within its ( and no more. */
    private static void depthInArguments() {
        String eleven = "(".repeat(11) + "x" + ")".repeat(11);
        String twelve = "(".repeat(12) + "x" + ")".repeat(12);
        right("a(" + eleven + "," + eleven + ")");
        right("i(" + eleven + "," + eleven + "," + eleven + ")");
        wrong("a(" + twelve + ",x)", 13);
        wrong("a(x," + twelve + ")", 15);
        wrong("m(x," + twelve + ")", 15);
        wrong("i(x,x," + twelve + ")", 17);
    }

    /** What is closed counts no more, and the - between two Ts never does. */
    private static void depthEnds() {
        String twelve = "(".repeat(12) + "x" + ")".repeat(12);
        right(twelve + "+" + twelve);
        right(twelve + "-" + twelve + "*" + twelve);
        right("-".repeat(12) + "x" + "-" + "-".repeat(12) + "x");
        right("(".repeat(12) + "x-x-x-x" + ")".repeat(12));
        right("x" + "-x".repeat(20));
        wrong("(".repeat(12) + "x--x" + ")".repeat(12), 14);
        right("(".repeat(11) + "x--x" + ")".repeat(11));
    }

    /** "Blanks (32) may stand between": between any two that belong to no one word. */
    private static void blanks() {
        right("  a  (  x  ,  -  y  )  *  (  3  )  ");
        right("i ( x , y , w )");
        wrong("1 2", 2);
        wrong("x y", 2);
        wrong("- ", 2);
        wrong("   ", 3);
        wrong("x\t", 1);
        wrong("x\n", 1);
        wrong("x\u00a0", 1);
        Check.due("32: blanks are nothing", value(" 1 + 2 * ( 3 + 4 ) ", 0), 15);
    }

    /** "a 201st byte". */
    private static void longestText() {
        String most = "x" + "+1".repeat(99);
        right(most);
        right(most + " ");
        right(" ".repeat(199) + "x");
        right("x" + " ".repeat(199));
        wrong(most + "  ", 200);
        wrong(most + "+1", 200);
        wrong("x" + " ".repeat(200), 200);
        wrong(" ".repeat(200) + "x", 200);
        wrong("1+" + most, 200);
        wrong("x" + " ".repeat(3000), 200);
        wrong("x" + "?" + " ".repeat(300), 1);
        wrong("x" + " ".repeat(198) + "?" + "x", 199);
        wrong("x" + " ".repeat(199) + "?", 200);
        wrong(" ".repeat(190) + "123456789012", 195);
        wrong(" ".repeat(196) + "12345", 200);
        wrong(" ".repeat(195) + "123456", 200);
        right(" ".repeat(195) + "12345");
        wrong(" ".repeat(197) + "(x)+", 200);
    }

    /** "the length, if it ends too soon". */
    private static void tooSoon() {
        String whole = "i(a(x,-1),M(2,m(s,t)),(w-h)%3)";
        right(whole);
        for (int n = 0; n < whole.length(); n++) {
            wrong(whole.substring(0, n), n);
        }
        wrong("", 0);
        wrong(" ".repeat(199) + "-", 200);
        wrong("(" + "1+".repeat(99) + "1", 200);
    }

    /** Sample 3, 2 of plane 0 of an 8 by 16 picture whose samples are 10 y + x. */
    private static int value(String text, int t) {
        House house = new House();
        house.blank(8, 16, 0, 100, 200);
        Check.text(house, "10*y+x");
        house.filter();
        house.apply(0, 0, 0);
        Check.text(house, text);
        Check.due("31: '" + text + "'", house.filter(), 1);
        house.apply(1, 1, t);
        return house.sample(2, 0, 3, 2);
    }

    private static void valueIs(String text, int t, int want) {
        Check.due("32: '" + text + "' with t " + t, value(text, t), want);
    }

    private static void sums() {
        valueIs("9-4-3", 0, 2);
        valueIs("9-(4-3)", 0, 8);
        valueIs("9-4+3", 0, 8);
        valueIs("-4+9", 0, 5);
        valueIs("9--4", 0, 13);
        valueIs("---4+9", 0, 5);
    }

    private static void products() {
        valueIs("2+3*4", 0, 14);
        valueIs("100/7*7", 0, 98);
        valueIs("100/(7*7)", 0, 2);
        valueIs("100%7*7", 0, 14);
        valueIs("100*7%9", 0, 7);
        valueIs("-3*-5", 0, 15);
        valueIs("20-2*3-4", 0, 10);
    }

    /** "/ and % towards 0, by 0: 0". */
    private static void divided() {
        valueIs("100+7/2", 0, 103);
        valueIs("100+ -7/2", 0, 97);
        valueIs("100+7/-2", 0, 97);
        valueIs("100+ -7/-2", 0, 103);
        valueIs("100+7%4", 0, 103);
        valueIs("100+ -7%4", 0, 97);
        valueIs("100+7%-4", 0, 103);
        valueIs("100+ -7%-4", 0, 97);
        valueIs("100+7/0", 0, 100);
        valueIs("100+7%0", 0, 100);
        valueIs("100+0/0", 0, 100);
        valueIs("100+0%0", 0, 100);
        valueIs("100+t/(x-3)", LEAST, 100);
        valueIs("100+t%(x-3)", LEAST, 100);
        valueIs("100+7/1", 0, 107);
        valueIs("100+7%1", 0, 100);
        valueIs("100+t/t", LEAST, 101);
    }

    /** "All are ints that wrap". */
    private static void wrapped() {
        valueIs("t", MOST, 255);
        valueIs("t+1", MOST, 0);
        valueIs("t", LEAST, 0);
        valueIs("t-1", LEAST, 255);
        valueIs("-t", LEAST, 0);
        valueIs("-t", MOST, 0);
        valueIs("-(t+1)", MOST, 0);
        valueIs("t/-1", LEAST, 0);
        valueIs("5+t%-1", LEAST, 5);
        valueIs("t*2+7", LEAST, 7);
        valueIs("t*t", MOST, 1);
        valueIs("t*2+9", MOST, 7);
        valueIs("99999*99999%1000-200", 0, 209);
        valueIs("t+t+1", MOST, 0);
        valueIs("t+t+3", MOST, 1);
    }

    /** "a(p, q) the sample p to the right and q below (x + p, y + q don't wrap)", "the nearest one". */
    private static void farSamples() {
        valueIs("a(0,0)", 0, 23);
        valueIs("a(1,0)", 0, 24);
        valueIs("a(0,1)", 0, 33);
        valueIs("a(-1,-1)", 0, 12);
        valueIs("a(4,0)", 0, 27);
        valueIs("a(5,0)", 0, 27);
        valueIs("a(-3,0)", 0, 20);
        valueIs("a(-4,0)", 0, 20);
        valueIs("a(0,13)", 0, 153);
        valueIs("a(0,14)", 0, 153);
        valueIs("a(0,-2)", 0, 3);
        valueIs("a(0,-3)", 0, 3);
        valueIs("a(t,0)", MOST, 27);
        valueIs("a(0,t)", MOST, 153);
        valueIs("a(t,0)", MOST - 2, 27);
        valueIs("a(t,0)", MOST - 3, 27);
        valueIs("a(t,0)", LEAST, 20);
        valueIs("a(0,t)", LEAST, 3);
        valueIs("a(t,t)", MOST, 157);
        valueIs("a(t,t)", LEAST, 0);
    }

    private static void lesserAndGreater() {
        valueIs("m(3,5)", 0, 3);
        valueIs("m(5,3)", 0, 3);
        valueIs("M(3,5)", 0, 5);
        valueIs("M(5,3)", 0, 5);
        valueIs("m(4,4)", 0, 4);
        valueIs("M(4,4)", 0, 4);
        valueIs("7+m(t,0)%5", LEAST, 4);
        valueIs("M(t,9)", LEAST, 9);
        valueIs("m(t,9)", MOST, 9);
        valueIs("M(-5,-3)+10", 0, 7);
        valueIs("m(-5,-3)+10", 0, 5);
    }

    /** "i(c, p, q): p if c isn't 0, else q (all three are worked)". */
    private static void chosen() {
        valueIs("i(0,10,20)", 0, 20);
        valueIs("i(1,10,20)", 0, 10);
        valueIs("i(-1,10,20)", 0, 10);
        valueIs("i(t,10,20)", MOST, 10);
        valueIs("i(t,10,20)", LEAST, 10);
        valueIs("i(t+t,10,20)", LEAST, 20);
        valueIs("i(1,10,7/0)", 0, 10);
        valueIs("i(0,7%0,20)", 0, 20);
    }

    /** "What comes is held to 0 .. 255". */
    private static void heldValues() {
        valueIs("0", 0, 0);
        valueIs("-1", 0, 0);
        valueIs("1", 0, 1);
        valueIs("254", 0, 254);
        valueIs("255", 0, 255);
        valueIs("256", 0, 255);
        valueIs("99999", 0, 255);
        valueIs("256-1", 0, 255);
        valueIs("-1+1", 0, 0);
    }

    /** "x, y where it is, w, h its plane's, n the plane, .. s the sample": in the corners of all planes. */
    private static void ofPlanes() {
        House house = new House();
        house.blank(24, 16, 5, 6, 7);
        String[] texts = {"x", "y", "w", "h", "n", "s", "t"};
        for (int q = 0; q < texts.length; q++) {
            Check.text(house, texts[q]);
            house.filter();
            Check.due("32: its number", house.apply(q, 0, 99), q + 1);
        }
        for (int plane = 0; plane < 3; plane++) {
            int wide = plane == 0 ? 24 : 12;
            int high = plane == 0 ? 16 : 8;
            int[] first = {0, 0, wide, high, plane, 5 + plane, 99};
            int[] last = {wide - 1, high - 1, wide, high, plane, 5 + plane, 99};
            for (int q = 0; q < texts.length; q++) {
                Check.due("32: " + texts[q], house.sample(q + 1, plane, 0, 0), first[q]);
                Check.due("32: " + texts[q], house.sample(q + 1, plane, wide - 1, high - 1), last[q]);
                Check.due("32: size", house.size(q + 1, 1), 16);
            }
        }
    }

    /** "IllegalStateException: there are 8". */
    private static void eightFilters() {
        House house = new House();
        house.blank(8, 8, 1, 2, 3);
        for (int q = 0; q < 8; q++) {
            Check.text(house, "?");
            Check.due("31: wrong ones aren't counted", house.filter(), -1);
            Check.text(house, "7*(x+y)-M(s,t))");
            Check.due("31: nor is anything of them left", house.filter(), -15);
            Check.text(house, "" + (q + 10));
            Check.due("31: its number", house.filter(), q);
            Check.due("43: filters", house.count(2), q + 1);
        }
        Check.text(house, "x");
        Check.badState("31: a ninth", () -> house.filter());
        Check.due("43: the tape stays", house.count(5), 1);
        house.wipe();
        Check.badState("31: a ninth, of an empty tape", () -> house.filter());
        for (int q = 0; q < 8; q++) {
            int p = house.apply(q, 0, 0);
            Check.due("32: of filter " + q, house.sample(p, 0, 7, 7), q + 10);
        }
    }

    private static void sixtyPictures() {
        House house = new House();
        house.blank(8, 8, 1, 2, 3);
        Check.text(house, "s+1");
        house.filter();
        for (int p = 1; p < 60; p++) {
            Check.due("32: its number", house.apply(0, p - 1, 0), p);
        }
        Check.due("32: the 60th", house.sample(59, 1, 0, 0), 61);
        Check.badState("32: a 61st", () -> house.apply(0, 0, 0));
        house.drop(59);
        Check.due("32: room again", house.apply(0, 0, 0), 59);
    }
}
