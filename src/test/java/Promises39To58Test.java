/** Promises 39 to 58, sentence by sentence: pages, analyses, output, slots, and the checksum. */
public final class Promises39To58Test {
    private static final int BAD = SpriteAtlas.BAD_VALUE, NONE = SpriteAtlas.NONE;
    private static final int NOT_POSSIBLE = SpriteAtlas.NOT_POSSIBLE;
    private static final int LOW = Integer.MIN_VALUE, HIGH = Integer.MAX_VALUE;

    private interface PixelCall {
        int with(SpriteAtlas atlas, int page, int x, int y);
    }

    private interface FreeCall {
        int with(SpriteAtlas atlas, int page, int index);
    }

    public static void main(String[] args) {
        pages();
        pixel();
        spriteAt();
        usedWidth();
        usedHeight();
        freeRectangles();
        freeParts();
        fill();
        fillInLowestTerms();
        unplaced();
        pageBound();
        pageBoundResults();
        bestMethod();
        bestMethodOfFew();
        smallestPage();
        smallestPageAsPacked();
        print();
        printParts();
        printed();
        keep();
        restore();
        restoreResults();
        checksum();
        checksumOfRuns();
        Doc.finish(Doc.promises(39, 58));
    }

    private static SpriteAtlas onPages(int wide, int high, String text) {
        SpriteAtlas a = Check.with(text);
        a.setPageSize(wide, high);
        return a;
    }

    // ---- pages

    private static void pages() {
        Doc.says("39", "Returns the number of pages of the atlas.");
        SpriteAtlas a = onPages(4, 4, Check.image(4, 4, 1) + Check.image(4, 4, 2) + Check.image(4, 4, 3)
                + Check.image(4, 4, 4) + Check.image(4, 4, 5));
        Doc.due("before packing", a.pages(), 0);
        for (int limit = 1; limit <= 4; limit++) {
            a.setPageLimit(limit);
            Doc.due("after a setting", a.pages(), 0);
            a.pack();
            Doc.due("with limit " + limit, a.pages(), limit);
        }
        a.unplace(3);
        a.unplace(0);
        Doc.due("empty pages count", a.pages(), 4);
        a.setGroup(0, 1);
        a.draw(1, 1);
        Doc.due("after draw()", a.pages(), 4);
        a.drop(4);
        Doc.due("after drop()", a.pages(), 0);
    }

    private static void pixelArguments(String promise, PixelCall call) {
        Arguments.page(promise, (a, n) -> call.with(a, n, 0, 0));
        SpriteAtlas a = onPages(7, 5, "9;");
        a.setMargins(0, 1, 1);
        a.pack();
        Doc.says(promise, "- `x`: the column on the page");
        for (int x : new int[] {-1, 7, 32, LOW, HIGH}) {
            Doc.due("x = " + x, call.with(a, 0, x, 1), BAD);
        }
        Doc.holds("x = 0", call.with(a, 0, 0, 1) != BAD);
        Doc.holds("x = 6", call.with(a, 0, 6, 1) != BAD);
        Doc.says(promise, "- `y`: the row on the page");
        for (int y : new int[] {-1, 5, 6, LOW, HIGH}) {
            Doc.due("y = " + y, call.with(a, 0, 1, y), BAD);
        }
        Doc.holds("y = 0", call.with(a, 0, 1, 0) != BAD);
        Doc.holds("y = 4", call.with(a, 0, 1, 4) != BAD);
    }

    private static void pixel() {
        pixelArguments("40", (a, page, x, y) -> a.pixel(page, x, y));
        Doc.says("40", "Returns the color of the pixel; BAD_VALUE if there is no such page or pixel.");
        SpriteAtlas a = onPages(4, 4, "1234/5678/9012/3450;" + Check.image(4, 4, 7));
        a.pack();
        Doc.due("page 0", Check.pixels(a, 0, 4, 4), "1234/5678/9012/3450");
        Doc.due("page 1", Check.pixels(a, 1, 4, 4), "7777/7777/7777/7777");
        Doc.due("no page 2", a.pixel(2, 0, 0), BAD);
        Doc.due("neither page nor pixel", a.pixel(2, 4, 4), BAD);
        a.unplace(1);
        Doc.due("an empty page", a.pixel(1, 3, 3), 0);
        a.setPageSize(32, 32);
        a.pack();
        Doc.due("the last pixel of a page of 32 x 32", a.pixel(0, 31, 31), 0);
        Doc.due("beyond it", a.pixel(0, 32, 31), BAD);
    }

    private static void spriteAt() {
        pixelArguments("41", (a, page, x, y) -> a.spriteAt(page, x, y));
        Doc.says("41", "Returns the original to whose placed image, with its extrusion, the pixel belongs; BAD_VALUE if"
                + " there is no such page or pixel; NONE if it belongs to none.");
        SpriteAtlas a = onPages(12, 9, "0;100/000/001;1;1;");
        a.setMargins(1, 1, 2);
        a.pack();
        Doc.due("places", Check.places(a), "- 0:3,3 1:3,3 1:3,3");
        for (int y = 0; y < 9; y++) {
            for (int x = 0; x < 12; x++) {
                boolean first = x >= 1 && x <= 7 && y >= 1 && y <= 7;
                Doc.due("page 0, " + x + ", " + y, a.spriteAt(0, x, y), first ? 1 : NONE);
                boolean second = x >= 1 && x <= 5 && y >= 1 && y <= 5;
                Doc.due("page 1, " + x + ", " + y, a.spriteAt(1, x, y), second ? 2 : NONE);
            }
        }
        Doc.due("no such page", a.spriteAt(2, 1, 1), BAD);
        a.unplace(2);
        Doc.due("an empty page", a.spriteAt(1, 3, 3), NONE);
        SpriteAtlas b = onPages(4, 6, "12345/60000;");
        b.setRotation(true);
        b.pack();
        Doc.due("a transparent pixel of a turned image", b.spriteAt(0, 0, 4), 0);
        Doc.due("beside it", b.spriteAt(0, 2, 0), NONE);
        Doc.due("below it", b.spriteAt(0, 0, 5), NONE);
        SpriteAtlas c = onPages(32, 32, "1;".repeat(24));
        c.setMatching(SpriteAtlas.NEVER);
        c.pack();
        Doc.due("the last of 24", c.spriteAt(0, c.xOf(23), c.yOf(23)), 23);
        Doc.due("none of 24", c.spriteAt(0, 31, 31), NONE);
    }

    private static SpriteAtlas twentyFour() {
        SpriteAtlas a = onPages(32, 32, "1;".repeat(24));
        a.setMatching(SpriteAtlas.NEVER);
        a.setWay(SpriteAtlas.TOP_LEFT);
        a.pack();
        return a;
    }

    private static void usedWidth() {
        Arguments.page("42", (a, n) -> a.usedWidth(n));
        Doc.says("42", "Returns the smallest width with which the page would contain all placed images with their"
                + " extrusions, and the border on the right; twice the border if it is empty; BAD_VALUE.");
        SpriteAtlas a = onPages(14, 24, "000/022;" + Check.image(5, 2, 1));
        for (int margins = 0; margins < 48; margins++) {
            int padding = margins % 4, border = margins / 4 % 4, extrusion = margins / 16;
            a.setMargins(padding, border, extrusion);
            a.insert(0);
            Doc.due("of 2 columns", a.usedWidth(0), 2 * border + 2 * extrusion + 2);
            a.insert(1);
            a.unplace(0);
            Doc.due("of 5 columns", a.usedWidth(0), a.xOf(1) + 5 + extrusion + border);
            a.unplace(1);
            Doc.due("empty", a.usedWidth(0), 2 * border);
        }
        SpriteAtlas b = onPages(4, 5, "12345;1234/1234/1234/1234;1;");
        b.setRotation(true);
        b.pack();
        Doc.due("of a turned image", b.usedWidth(0), 2);
        Doc.due("of a full page", b.usedWidth(1), 4);
        Doc.due("of 24", twentyFour().usedWidth(0), 24);
    }

    private static void usedHeight() {
        Arguments.page("43", (a, n) -> a.usedHeight(n));
        Doc.says("43", "Returns the smallest height with which the page would contain all placed images with their"
                + " extrusions, and the border below; twice the border if it is empty; BAD_VALUE.");
        SpriteAtlas a = onPages(24, 14, "00/02/02;" + Check.image(2, 5, 1));
        for (int margins = 0; margins < 48; margins++) {
            int padding = margins % 4, border = margins / 4 % 4, extrusion = margins / 16;
            a.setMargins(padding, border, extrusion);
            a.insert(0);
            Doc.due("of 2 rows", a.usedHeight(0), 2 * border + 2 * extrusion + 2);
            a.insert(1);
            a.unplace(0);
            Doc.due("of 5 rows", a.usedHeight(0), a.yOf(1) + 5 + extrusion + border);
            a.unplace(1);
            Doc.due("empty", a.usedHeight(0), 2 * border);
        }
        SpriteAtlas b = onPages(5, 4, "1/2/3/4/5;" + Check.image(4, 4, 2) + "1;");
        b.setRotation(true);
        b.pack();
        Doc.due("of a turned image", b.usedHeight(0), 2);
        Doc.due("of a full page", b.usedHeight(1), 4);
        Doc.due("of 24", twentyFour().usedHeight(0), 1);
    }

    private static void freeRectangles() {
        Arguments.page("44", (a, n) -> a.freeRectangles(n));
        Doc.says("44", "Returns the number of its free rectangles; BAD_VALUE.");
        SpriteAtlas a = onPages(4, 4, Check.image(4, 4, 1) + "2;");
        a.pack();
        Doc.due("of a full page", a.freeRectangles(0), 0);
        Doc.due("of a corner", a.freeRectangles(1), 2);
        a.unplace(1);
        Doc.due("of an empty page", a.freeRectangles(1), 1);
        a.setMargins(3, 0, 0);
        a.pack();
        Doc.due("of a full page with padding", a.freeRectangles(0), 0);
        a.unplace(0);
        a.insert(1);
        Doc.due("places", Check.places(a), "- 1:0,0");
        Doc.due("of the field", Check.free(a, 0) + " and " + Check.free(a, 1), "0,0 7x7 and 4,0 3x7; 0,4 7x3");
    }

    private static void freePart(String promise, String returns, int part, FreeCall call) {
        Arguments.page(promise, (a, n) -> call.with(a, n, 0));
        SpriteAtlas a = onPages(7, 6, "1;" + Check.image(7, 6, 2));
        a.setMargins(2, 1, 0);
        a.pack();
        Doc.says(promise, "- `index`: the number of a free rectangle");
        for (int index : new int[] {-1, 2, 350, LOW, HIGH}) {
            Doc.due("with " + index, call.with(a, 0, index), BAD);
        }
        a.unplace(0);
        Doc.due("1 on an empty page", call.with(a, 0, 1), BAD);
        Doc.says(promise, returns);
        // The field is 7 wide, 6 high.
        int[] whole = {0, 0, 7, 6};
        Doc.due("of an empty page", call.with(a, 0, 0), whole[part]);
        a.insert(0);
        int[] right = {3, 0, 4, 6}, below = {0, 3, 7, 3};
        Doc.due("to the right", call.with(a, 0, 0), right[part]);
        Doc.due("below", call.with(a, 0, 1), below[part]);
        Doc.due("no such page", call.with(a, 1, 0), BAD);
        a.setMargins(0, 0, 0);
        a.pack();
        Doc.due("on a full page", call.with(a, 1, 0), BAD);
        SpriteAtlas b = onPages(32, 32, "1;");
        b.setMargins(3, 0, 0);
        b.pack();
        b.unplace(0);
        int[] greatest = {0, 0, 35, 35};
        Doc.due("of the greatest field", call.with(b, 0, 0), greatest[part]);
        b.insert(0);
        int[] rightOf = {4, 0, 31, 35}, belowIt = {0, 4, 35, 31};
        Doc.due("of the greatest field", call.with(b, 0, 0), rightOf[part]);
        Doc.due("of the greatest field", call.with(b, 0, 1), belowIt[part]);
    }

    private static void freeParts() {
        freePart("45", "Returns its left column in the field; BAD_VALUE.", 0, (a, page, i) -> a.freeX(page, i));
        freePart("46", "Returns its upper row in the field; BAD_VALUE.", 1, (a, page, i) -> a.freeY(page, i));
        freePart("47", "Returns its width; BAD_VALUE.", 2, (a, page, i) -> a.freeWidth(page, i));
        freePart("48", "Returns its height; BAD_VALUE.", 3, (a, page, i) -> a.freeHeight(page, i));
    }

    private static String share(SpriteAtlas a, int page) {
        return a.fill(page, false) + "/" + a.fill(page, true);
    }

    private static void fill() {
        Arguments.page("49", (a, n) -> a.fill(n, n % 2 == 0));
        Doc.says("49", "- `denominator`: true for the denominator, false for the numerator");
        SpriteAtlas a = onPages(5, 7, "111;");
        a.pack();
        Doc.due("true", a.fill(0, true), 35);
        Doc.due("false", a.fill(0, false), 3);
        Doc.says("49", "Returns that number; BAD_VALUE.");
        Doc.due("no such page", a.fill(1, true), BAD);
        Doc.due("no such page", a.fill(1, false), BAD);
        Doc.due("no such page", a.fill(-1, true), BAD);
        Doc.due("no such page", a.fill(-1, false), BAD);
        Doc.due("3 of 35", share(a, 0), "3/35");
    }

    private static void fillInLowestTerms() {
        Doc.says("49", "Returns the share of the pixels of a page that belong to placed images (without extrusions), as a"
                + " fraction in lowest terms with a denominator above 0 (0 is 0 / 1).");
        SpriteAtlas a = onPages(4, 4, "00/01;" + Check.image(4, 4, 2) + Check.image(3, 2, 3) + "12/34;00/01;0;");
        a.setPageLimit(4);
        Doc.due("pack()", a.pack(), 0);
        Doc.due("places", Check.places(a), "0:0,0 1:0,0 0:1,0 0:0,2 0:0,0 -");
        Doc.due("1 + 6 + 4 of 16", share(a, 0), "11/16");
        Doc.due("all", share(a, 1), "1/1");
        a.unplace(0);
        Doc.due("10 of 16", share(a, 0), "5/8");
        a.unplace(2);
        Doc.due("4 of 16", share(a, 0), "1/4");
        a.unplace(3);
        Doc.due("0 of 16", share(a, 0), "0/1");
        a.setMargins(3, 3, 2);
        a.setPageSize(32, 32);
        a.setPageLimit(1);
        a.pack();
        Doc.due("27 of 1024", share(a, 0), "27/1024");
        a.setTrimming(false);
        a.pack();
        Doc.due("whole images, the blank one too: 4 + 16 + 6 + 4 + 1 of 1024", share(a, 0), "31/1024");
        SpriteAtlas b = new SpriteAtlas();
        b.setMatching(SpriteAtlas.NEVER);
        b.setPageSize(32, 32);
        Check.text(b, Check.image(8, 8, 1) + Check.image(8, 8, 2));
        for (int i = 0; i < 8; i++) {
            b.read();
        }
        b.pack();
        Doc.due("1024 of 1024", share(b, 0), "1/1");
        b.unplace(5);
        Doc.due("960 of 1024", share(b, 0), "15/16");
        Doc.due("24 of 1024", share(twentyFour(), 0), "3/128");
    }

    // ---- analyses

    private static void unplaced() {
        Doc.says("50", "Returns the number of originals that are not placed.");
        SpriteAtlas a = new SpriteAtlas();
        Doc.due("no sprites", a.unplaced(), 0);
        Check.read(a, "1;0;1;22;");
        Doc.due("neither blank ones nor copies", a.unplaced(), 2);
        a.insert(3);
        Doc.due("one is placed", a.unplaced(), 1);
        a.pack();
        Doc.due("all are placed", a.unplaced(), 0);
        a.unplace(0);
        Doc.due("with a copy", a.unplaced(), 1);
        a.setMatching(SpriteAtlas.NEVER);
        Doc.due("without copies", a.unplaced(), 3);
        a.setTrimming(false);
        Doc.due("without blank ones", a.unplaced(), 4);
        a.setMargins(0, 3, 0);
        a.setPageSize(4, 4);
        a.pack();
        Doc.due("none can be placed", a.unplaced(), 4);
        SpriteAtlas b = Check.with("1;".repeat(24));
        Doc.due("23 copies", b.unplaced(), 1);
        b.setMatching(SpriteAtlas.NEVER);
        Doc.due("24", b.unplaced(), 24);
        b.pack();
        b.unplace(23);
        Doc.due("the last of 24", b.unplaced(), 1);
    }

    private static void pageBound() {
        Doc.says("51", "Returns a lower bound for the number of pages: the number of positions of the upright boxes of"
                + " all originals together, divided by the number of positions of a field, rounded up.");
        SpriteAtlas a = onPages(4, 4, Check.image(4, 3, 1) + Check.image(4, 1, 2) + "0;" + Check.image(4, 1, 2));
        Doc.due("16 by 16", a.pageBound(), 1);
        Check.read(a, "3;");
        Doc.due("17 by 16", a.pageBound(), 2);
        Check.read(a, Check.image(5, 3, 4));
        Doc.due("32 by 16, whether it fits or not", a.pageBound(), 2);
        Check.read(a, "5;");
        Doc.due("33 by 16", a.pageBound(), 3);
        a.pack();
        Doc.due("packed or not", a.pageBound(), 3);
        a.setPageLimit(1);
        Doc.due("whatever the limit is", a.pageBound(), 3);
        SpriteAtlas b = onPages(6, 5, "12345;");
        // boxes of 5 + 2 * 2 + 3 = 12 by 1 + 7 = 8, a field of 6 - 2 + 3 = 7 by 6
        b.setMargins(3, 1, 2);
        Doc.due("96 by 42", b.pageBound(), 3);
        b.setRotation(true);
        Doc.due("the upright boxes", b.pageBound(), 3);
        SpriteAtlas c = new SpriteAtlas();
        c.setMatching(SpriteAtlas.NEVER);
        Check.text(c, Check.image(8, 8, 1) + Check.image(8, 8, 2));
        for (int i = 0; i < 12; i++) {
            c.read();
        }
        c.setPageSize(4, 4);
        c.setMargins(3, 3, 2);
        Doc.due("24 * 15 * 15 by 1", c.pageBound(), 5400);
    }

    private static void pageBoundResults() {
        Doc.says("51", "Returns the bound, 0 without originals; NONE if there are originals and a field has no position.");
        SpriteAtlas a = new SpriteAtlas();
        Doc.due("no sprites", a.pageBound(), 0);
        a.setPageSize(4, 4);
        a.setMargins(0, 2, 0);
        Doc.due("no sprites, no position", a.pageBound(), 0);
        Check.read(a, "0;");
        Doc.due("a blank one, no position", a.pageBound(), 0);
        Check.read(a, "1;");
        Doc.due("an original, no position", a.pageBound(), NONE);
        a.setPageSize(4, 5);
        Doc.due("no column", a.pageBound(), NONE);
        a.setPageSize(5, 4);
        Doc.due("no row", a.pageBound(), NONE);
        a.setPageSize(5, 5);
        Doc.due("one position", a.pageBound(), 1);
        a.setPageSize(4, 4);
        a.setMargins(0, 3, 0);
        Doc.due("less than no column and no row", a.pageBound(), NONE);
        a.drop(1);
        Doc.due("a blank one alone", a.pageBound(), 0);
    }

    // ---- bestMethod()

    /** For each order and way the originals that are not placed, the pages, and the sum of used areas. */
    private static int[][] costs(SpriteAtlas a) {
        int[][] costs = new int[16][3];
        for (int method = 0; method < 16; method++) {
            a.setOrder(method / 4);
            a.setWay(method % 4);
            costs[method][0] = a.pack();
            costs[method][1] = a.pages();
            for (int page = 0; page < a.pages(); page++) {
                costs[method][2] += a.usedWidth(page) * a.usedHeight(page);
            }
        }
        return costs;
    }

    /** The first method of the least costs, with one of these left out (or none, if it is 3). */
    private static int best(int[][] costs, int leftOut) {
        int best = 0;
        for (int method = 1; method < 16; method++) {
            for (int i = 0; i < 3; i++) {
                if (i != leftOut && costs[method][i] != costs[best][i]) {
                    best = costs[method][i] < costs[best][i] ? method : best;
                    break;
                }
            }
        }
        return 10 * (best / 4) + best % 4;
    }

    private static SpriteAtlas drawn(int seed) {
        SpriteAtlas a = onPages(6 + seed % 5, 6 + seed % 4, "");
        a.setRotation(seed % 2 == 0);
        a.setMargins(seed % 3 % 2, seed % 5 % 2, seed % 7 == 0 ? 1 : 0);
        a.setPageLimit(1 + seed % 4);
        a.draw(seed, 8);
        a.draw(seed + 1000, 1 + seed % 8);
        a.setGrouped(seed % 3 == 0);
        for (int sprite = 0; sprite < a.sprites(); sprite += 3) {
            a.setGroup(sprite, seed % 4);
        }
        return a;
    }

    private static void bestMethod() {
        Doc.says("52", "Finds the best order and way: those with which, if the atlas were packed now with them, the"
                + " fewest originals would not be placed; of several those with the fewest pages; of several those with"
                + " the smallest sum of usedWidth times usedHeight over all pages; of several those with the lowest"
                + " order; of several those with the lowest way.");
        int[] decided = new int[3];
        for (int seed = 1; seed <= 60; seed++) {
            SpriteAtlas a = drawn(seed);
            int answer = a.bestMethod();
            int[][] costs = costs(a);
            int due = best(costs, 3);
            Doc.due("with seed " + seed, answer, due);
            for (int i = 0; i < 3; i++) {
                decided[i] += best(costs, i) != due ? 1 : 0;
            }
        }
        Doc.holds("fewest originals decide now and then", decided[0] > 0);
        Doc.holds("fewest pages decide now and then", decided[1] > 0);
        Doc.holds("smallest sums decide now and then", decided[2] > 0);
        Doc.says("52", "Returns 10 * order + way.");
        // Packed as 3 x 3 first, neither of the others has room; by area the same; by side or height both have.
        SpriteAtlas b = onPages(4, 4, Check.image(3, 3, 1) + Check.image(2, 4, 2) + Check.image(2, 4, 3));
        b.setPageLimit(1);
        Doc.due("BY_SIDE, SHORT_SIDE", b.bestMethod(), 20);
        SpriteAtlas c = onPages(4, 4, Check.image(2, 2, 1) + "2/2;" + Check.image(4, 2, 3));
        Doc.due("BY_NUMBER, LONG_SIDE", c.bestMethod(), 1);
    }

    private static void bestMethodOfFew() {
        Doc.says("52", "of several those with the lowest order; of several those with the lowest way.");
        SpriteAtlas a = new SpriteAtlas();
        a.setOrder(SpriteAtlas.BY_HEIGHT);
        a.setWay(SpriteAtlas.TOP_LEFT);
        Doc.due("no sprites", a.bestMethod(), 0);
        Check.read(a, "0;");
        Doc.due("a blank one", a.bestMethod(), 0);
        Check.read(a, "1;");
        Doc.due("one original", a.bestMethod(), 0);
        a.setMargins(0, 3, 0);
        a.setPageSize(4, 4);
        Doc.due("no position", a.bestMethod(), 0);
        Doc.due("nothing has changed", a.setOrder(0), SpriteAtlas.BY_HEIGHT);
        Doc.due("nothing has changed", a.setWay(0), SpriteAtlas.TOP_LEFT);
        SpriteAtlas b = Check.with("1;".repeat(24));
        b.setMatching(SpriteAtlas.NEVER);
        Doc.due("24 equal ones", b.bestMethod(), best(costs(b), 3));
    }

    // ---- smallestPage()

    private static void smallestPage() {
        Doc.says("53", "Returns the smallest n from 4 to 32 such that, if the atlas were packed now with one page of n"
                + " times n pixels (grouped being off), all originals would be placed; NONE if there is none.");
        SpriteAtlas a = new SpriteAtlas();
        Doc.due("no sprites", a.smallestPage(), 4);
        Check.read(a, Check.image(4, 4, 1) + "0;" + Check.image(4, 4, 1));
        Doc.due("4, just full", a.smallestPage(), 4);
        Check.read(a, "2;");
        Doc.due("one pixel more", a.smallestPage(), 5);
        a.drop(3);
        a.setPageSize(32, 4);
        a.setMargins(3, 0, 0);
        Doc.due("whatever the page and the padding are", a.smallestPage(), 4);
        a.setMargins(0, 3, 2);
        Doc.due("4 + 2 * 3 + 2 * 2", a.smallestPage(), 14);
        SpriteAtlas b = new SpriteAtlas();
        b.setMatching(SpriteAtlas.NEVER);
        Check.text(b, Check.image(8, 8, 1) + Check.image(8, 8, 2));
        for (int i = 0; i < 8; i++) {
            b.read();
        }
        b.setPageLimit(4);
        Doc.due("32, just full", b.smallestPage(), 32);
        b.draw(1, 1);
        Doc.due("one more", b.smallestPage(), NONE);
        b.drop(16);
        b.setMargins(1, 0, 0);
        Doc.due("with padding", b.smallestPage(), NONE);
        b.setPageSize(32, 32);
        Doc.due("two pages would do", b.pack() + " " + b.pages(), "0 2");
        SpriteAtlas c = Check.with(Check.image(4, 2, 1) + Check.image(4, 2, 2));
        c.setGroup(1, 2);
        c.setGrouped(true);
        Doc.due("grouped being off", c.smallestPage(), 4);
        Doc.due("it is on still", c.setGrouped(true), 1);
    }

    /** Packs pages of all sizes through the public face, by the order and way that are set. */
    private static void smallestPageAsPacked() {
        for (int seed = 1; seed <= 40; seed++) {
            SpriteAtlas a = drawn(seed);
            a.setOrder(seed / 4 % 4);
            a.setWay(seed % 4);
            int answer = a.smallestPage();
            a.setGrouped(false);
            a.setPageLimit(1);
            int due = NONE;
            for (int n = 32; n >= 4; n--) {
                a.setPageSize(n, n);
                due = a.pack() == 0 ? n : due;
            }
            Doc.due("with seed " + seed, answer, due);
        }
    }

    // ---- output

    private static void expect(SpriteAtlas a, int sprite, String want) {
        Doc.due("print(" + sprite + ")", a.print(sprite), want.length());
        Doc.due("what is printed", Check.printed(a), want);
    }

    private static void print() {
        Arguments.sprite("54", (a, n) -> a.print(n));
        SpriteAtlas a = Check.with("12;0;2/1;345/000;12;");
        Doc.says("54", "Returns the number of characters; BAD_VALUE.");
        Doc.due("1: blank", a.print(1), 8);
        Doc.due("no such sprite", a.print(5), BAD);
        Doc.due("that prints nothing", Check.printed(a), "1: blank");
        Doc.says("54", "Prints a sprite, in place of what was printed before: its number and a colon;");
        expect(a, 4, "4: unplaced copy of 0");
        expect(a, 1, "1: blank");
        Doc.due("nothing is left of the longer one", a.printed(8), NONE);
        expect(a, 0, "0: unplaced");
    }

    private static void printParts() {
        SpriteAtlas a = onPages(4, 8, "1234567;0;7/6/5/4/3/2/1;" + Check.image(5, 5, 8) + Check.image(5, 5, 8)
                + "00/01;");
        a.setRotation(true);
        a.setMatching(SpriteAtlas.TURNED);
        Doc.says("54", "then \" blank\" if it is blank;");
        expect(a, 1, "1: blank");
        a.pack();
        expect(a, 1, "1: blank");
        Doc.says("54", "otherwise, if it is not placed, \" unplaced\";");
        expect(a, 3, "3: unplaced");
        Doc.says("54", "otherwise \" page \" and its page, \" at \" and the numbers of xOf() and yOf() with a comma"
                + " between, \" size \" and the width and height of its trim rectangle with an x between, \" record \""
                + " and its record;");
        expect(a, 0, "0: page 0 at 0,0 size 7x1 record 3");
        expect(a, 5, "5: page 0 at 0,7 size 1x1 record 0");
        Doc.says("54", "and then, placed or not, if it is a copy, \" copy of \" and its original.");
        expect(a, 2, "2: page 0 at 0,0 size 1x7 record 2 copy of 0");
        expect(a, 4, "4: unplaced copy of 3");
        Doc.says("54", "Numbers are decimal.");
        SpriteAtlas b = onPages(32, 32, "0;".repeat(10) + "1;" + "2;".repeat(12) + "1;");
        b.setMargins(3, 3, 2);
        b.pack();
        expect(b, 10, "10: page 0 at 5,5 size 1x1 record 0");
        expect(b, 11, "11: page 0 at 13,5 size 1x1 record 0");
        expect(b, 22, "22: page 0 at 13,5 size 1x1 record 0 copy of 11");
        expect(b, 23, "23: page 0 at 5,5 size 1x1 record 0 copy of 10");
        expect(b, 9, "9: blank");
    }

    private static void printed() {
        Doc.says("55", "- `index`: the index of a character that was printed, counted from 0");
        SpriteAtlas a = Check.with("0;1;");
        a.print(0);
        Doc.due("the first", a.printed(0), '0');
        Doc.due("the last", a.printed(7), 'k');
        Doc.says("55", "Returns its code; BAD_VALUE if index is negative; NONE if there is no such character.");
        Doc.due("a colon", a.printed(1), 58);
        Doc.due("a space", a.printed(2), 32);
        Doc.due("after the last", a.printed(8), NONE);
        Doc.due("far after the last", a.printed(HIGH), NONE);
        Doc.due("-1", a.printed(-1), BAD);
        Doc.due("the lowest int", a.printed(LOW), BAD);
        a.print(1);
        Doc.due("of a longer text", a.printed(10), 'd');
        Doc.due("after its end", a.printed(11), NONE);
        a.drop(0);
        a.undo();
        Doc.due("it stays when sprites change", Check.printed(a), "1: unplaced");
        SpriteAtlas b = new SpriteAtlas();
        Doc.due("nothing was printed", b.printed(0), NONE);
        Doc.due("nothing was printed, and negative", b.printed(-1), BAD);
    }

    // ---- slots

    private static void keep() {
        Doc.says("56", "Keeps the sprites with their groups, the settings and the atlas, in place of what the slot"
                + " keeps.");
        SpriteAtlas a = Check.with("12;3;");
        a.keep(0);
        a.setGroup(1, 2);
        a.setMargins(1, 1, 0);
        a.pack();
        a.unplace(0);
        long sum = a.checksum();
        a.keep(0);
        a.drop(0);
        a.setMargins(0, 0, 0);
        a.restore(0);
        Doc.due("the later one", a.checksum(), sum);
        Doc.due("places", Check.places(a), "- 0:4,1");
        Doc.due("its settings", a.setMargins(0, 0, 0), 110);
        Doc.says("56", "- `slot`: 0 or 1");
        for (int slot : new int[] {-1, 2, 3, LOW, HIGH}) {
            Doc.due("slot " + slot, a.keep(slot), BAD);
        }
        Doc.due("slot 1", a.keep(1), 2);
        a.drop(0);
        a.keep(0);
        Doc.due("slot 1 keeps another", a.restore(1), 2);
        Doc.due("than slot 0", a.restore(0), 1);
        Doc.says("56", "Returns the number of sprites; BAD_VALUE.");
        Doc.due("no sprites", new SpriteAtlas().keep(0), 0);
        Doc.due("24 sprites", Check.with("1;".repeat(24)).keep(1), 24);
        Doc.due("one", a.keep(0), 1);
    }

    private static void restore() {
        Doc.says("57", "Makes the sprites with their groups, the settings and the atlas as they were kept.");
        SpriteAtlas a = onPages(4, 4, Check.image(4, 3, 1) + Check.image(4, 4, 2) + "3;");
        a.setGroup(2, 1);
        a.setGrouped(true);
        a.pack();
        a.unplace(0);
        a.insert(2);
        long sum = a.checksum();
        a.keep(1);
        a.unplace(2);
        a.insert(0);
        a.restore(1);
        Doc.due("the atlas", Check.places(a), "- 1:0,0 0:0,0");
        Doc.due("checksum()", a.checksum(), sum);
        Doc.due("free rectangles", Check.free(a, 0) + " and " + Check.free(a, 1), "1,0 3x4; 0,1 4x3 and ");
        a.unplace(2);
        a.setGroup(2, 0);
        a.insert(2);
        Doc.due("room on a page of group 0", a.insert(0), 0);
        a.restore(1);
        Doc.due("the groups of pages and sprites", a.insert(0) + " " + a.groupOf(2), "-2 1");
        restoreOf24();
        restoreOfPlaces();
        Doc.says("57", "The slot keeps them.");
        a.restore(1);
        a.setPixel(2, 0, 0, 9);
        a.drop(0);
        Doc.due("again", a.restore(1), 3);
        Doc.due("as it was", a.checksum(), sum);
        Doc.says("57", "The history is empty then.");
        a.setGroup(0, 1);
        a.setGroup(0, 2);
        a.restore(1);
        Doc.due("undo()", a.undo(), NOT_POSSIBLE);
        a.setGroup(0, 3);
        Doc.due("undo() of a later change", a.undo(), 0);
        Doc.due("undo() once more", a.undo(), NOT_POSSIBLE);
        Doc.due("as it was kept", a.checksum(), sum);
    }

    private static void restoreOf24() {
        SpriteAtlas a = Check.with("1;2;3;4;5;6;7;8;9;1;2;3;4;5;6;7;8;9;1;2;3;4;5;6;");
        a.setGroup(23, 2);
        a.keep(0);
        a.drop(0);
        a.restore(0);
        for (int sprite = 0; sprite < 24; sprite++) {
            Doc.due("the color of sprite " + sprite, a.color(sprite, 0, 0), sprite % 9 + 1);
        }
        Doc.due("groups", a.groupOf(22) + " " + a.groupOf(23), "0 2");
    }

    private static void restoreOfPlaces() {
        SpriteAtlas a = Check.with(Check.image(5, 2, 1) + Check.image(4, 5, 2) + Check.image(4, 4, 3)
                + Check.image(4, 5, 4));
        a.setPageLimit(4);
        a.setRotation(true);
        a.setPageSize(4, 5);
        a.pack();
        a.keep(1);
        long sum = a.checksum();
        a.setPageSize(8, 8);
        a.pack();
        a.keep(0);
        Doc.due("two pages", Check.places(a), "0:0,0 0:0,2 0:4,2 1:0,0");
        a.restore(1);
        Doc.due("four pages", Check.places(a), "0:0,0t 1:0,0 2:0,0 3:0,0");
        Doc.due("checksum()", a.checksum(), sum);
        Doc.due("what is free on them", Check.free(a, 0) + " and " + Check.free(a, 3), "2,0 2x5 and ");
        a.restore(0);
        Doc.due("two pages", Check.places(a), "0:0,0 0:0,2 0:4,2 1:0,0");
    }

    private static void restoreResults() {
        Doc.says("57", "- `slot`: 0 or 1");
        SpriteAtlas a = Check.with("1;");
        a.keep(0);
        for (int slot : new int[] {-1, 2, 3, LOW, HIGH}) {
            Doc.due("slot " + slot, a.restore(slot), BAD);
        }
        Doc.says("57", "Returns the number of sprites then; BAD_VALUE; NOT_POSSIBLE if the slot keeps nothing.");
        Doc.due("slot 1 keeps nothing", a.restore(1), NOT_POSSIBLE);
        Doc.due("the history stays", a.undo(), 0);
        Doc.due("slot 0 keeps one", a.restore(0), 1);
        SpriteAtlas b = new SpriteAtlas();
        Doc.due("slot 0 keeps nothing", b.restore(0), NOT_POSSIBLE);
        b.keep(1);
        Check.read(b, "1;".repeat(24));
        b.keep(0);
        Doc.due("no sprites", b.restore(1), 0);
        Doc.due("none then", b.sprites(), 0);
        Doc.due("24 sprites", b.restore(0), 24);
        Doc.due("24 then", b.sprites(), 24);
    }

    // ---- the checksum

    /** The checksum by the public face, as the document says it. */
    private static long sumOf(SpriteAtlas a, int pageWidth, int pageHeight) {
        int sprites = a.sprites(), pages = a.pages();
        long h = 31 * 19 + sprites;
        for (int s = 0; s < sprites; s++) {
            int wide = a.width(s), high = a.height(s);
            h = 31 * (31 * h + wide) + high;
            for (int i = 0; i < wide * high; i++) {
                h = 31 * h + a.color(s, i % wide, i / wide);
            }
            int[] values = {a.groupOf(s), a.trimLeft(s), a.trimTop(s), a.trimWidth(s), a.trimHeight(s), a.originalOf(s),
                a.orientationOf(s), a.pageOf(s), a.xOf(s), a.yOf(s), a.isTurned(s), a.recordOf(s)};
            for (int value : values) {
                h = 31 * h + value;
            }
        }
        h = 31 * h + pages;
        for (int page = 0; page < pages; page++) {
            h = 31 * (31 * (31 * h + a.usedWidth(page)) + a.usedHeight(page)) + a.freeRectangles(page);
            for (int i = 0; i < pageWidth * pageHeight; i++) {
                h = 31 * h + a.pixel(page, i % pageWidth, i / pageWidth);
            }
        }
        return h;
    }

    private static void checksum() {
        Doc.says("58", "Computes a checksum.");
        SpriteAtlas a = new SpriteAtlas();
        Doc.due("no sprites, no pages", a.checksum(), (31 * 19 + 0) * 31 + 0);
        Check.read(a, "0;");
        // 19, 1 sprite: 1 wide, 1 high, color 0, group 0, -4, -4, 0, 0, no copy, not placed; no pages
        long h = 31 * 19 + 1;
        for (int value : new int[] {1, 1, 0, 0, -4, -4, 0, 0, -4, -4, -4, -4, -4, -4, -4, 0}) {
            h = 31 * h + value;
        }
        Doc.due("a blank one", a.checksum(), h);
        Doc.says("58", "Returns the checksum.");
        Doc.due("once more", a.checksum(), h);
        a.setGroup(0, 3);
        Doc.holds("another group", a.checksum() != h);
        a.undo();
        Doc.due("as before", a.checksum(), h);
    }

    private static void checksumOfRuns() {
        Doc.says("58", "It starts with h = 19; for each of the following values, in this order, h becomes 31 * h + value"
                + " (as longs, with overflow): sprites(); for each sprite width(), height(), the colors of its pixels row"
                + " by row, groupOf(), trimLeft(), trimTop(), trimWidth(), trimHeight(), originalOf(), orientationOf(),"
                + " pageOf(), xOf(), yOf(), isTurned() and recordOf(); pages(); for each page usedWidth(), usedHeight(),"
                + " freeRectangles(), and the colors of its pixels row by row.");
        for (int seed = 1; seed <= 48; seed++) {
            int wide = 6 + seed % 5, high = 6 + seed % 4;
            SpriteAtlas a = onPages(wide, high, "123;321;3/2/1;0;");
            a.setMatching(seed % 4);
            a.setTrimming(seed % 5 > 0);
            a.setRotation(seed % 2 == 0);
            a.setMargins(seed % 3 % 2, seed % 5 % 2, seed % 7 == 0 ? 1 : 0);
            a.draw(seed, 5);
            a.setGroup(seed % 9, 1 + seed % 3);
            if (seed % 6 > 0) {
                a.pack();
                a.unplace(seed % 3);
            }
            long sum = a.checksum();
            Doc.due("with seed " + seed, sum, sumOf(a, wide, high));
        }
        Model model = new Model();
        SpriteAtlas b = Check.with("1;".repeat(24));
        for (char c : "1;".repeat(24).toCharArray()) {
            model.append(c);
        }
        model.read();
        Doc.due("of 24 sprites", b.checksum(), model.checksum());
        Doc.due("setMatching", b.setMatching(SpriteAtlas.NEVER), model.setMatching(0));
        Doc.due("setPageSize", b.setPageSize(32, 32), model.setPageSize(32, 32));
        Doc.due("pack", b.pack(), model.pack());
        Doc.due("on 32 x 32 pixels", b.checksum(), model.checksum());
    }
}
