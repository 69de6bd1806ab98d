/** The document's description as far as it is about pages, packing and the history, sentence by sentence. */
public final class DescriptionOfPagesTest {
    private static final int BAD = SpriteAtlas.BAD_VALUE, FULL = SpriteAtlas.FULL, NONE = SpriteAtlas.NONE;
    private static final int NOT_POSSIBLE = SpriteAtlas.NOT_POSSIBLE;
    private static final int WAYS = 4;

    private interface Call {
        int on(SpriteAtlas atlas);
    }

    public static void main(String[] args) {
        pageLimit();
        pageSize();
        margins();
        rotationAtFirst();
        fieldSize();
        fieldPositions();
        positionsOutside();
        uprightOrTurned();
        boxSize();
        boxesApart();
        imageInBox();
        placeOfCopy();
        placedSprites();
        noPosition();
        freeRectangles();
        orderOfFreeRectangles();
        fitting();
        firstPage();
        grouped();
        bestPair();
        upperLeftCorner();
        waysByFirstValue();
        waysBySecondValue();
        topLeftBySecondValue();
        newPage();
        emptyPage();
        toPack();
        orders();
        imagePixels();
        extrudedPixels();
        otherPixels();
        records();
        changes();
        fiveStates();
        oldestState();
        emptiedAtlas();
        addedCopies();
        Doc.finish("Pages", "Placing an original", "Pixels of pages", "Changes");
    }

    /** Images of the size of a page of 4 x 4, of the colors 1 to n. */
    private static String pageFillers(int n) {
        StringBuilder text = new StringBuilder();
        for (int color = 1; color <= n; color++) {
            text.append(Check.image(4, 4, color));
        }
        return text.toString();
    }

    private static SpriteAtlas onPages(int wide, int high, String text) {
        SpriteAtlas a = Check.with(text);
        a.setPageSize(wide, high);
        return a;
    }

    // ---- pages, fields and boxes

    private static void pageLimit() {
        Doc.says("Pages", "An atlas has at most as many pages as the page limit says, 1 to 4 (at first 2), numbered from"
                + " 0.");
        SpriteAtlas a = onPages(4, 4, pageFillers(5));
        Doc.due("pack() at first", a.pack(), 3);
        Doc.due("pages() at first", a.pages(), 2);
        for (int limit = 1; limit <= 4; limit++) {
            a.setPageLimit(limit);
            Doc.due("pack()", a.pack(), 5 - limit);
            Doc.due("pages()", a.pages(), limit);
            Doc.due("the first page", a.pageOf(0), 0);
            Doc.due("the last page", a.pageOf(limit - 1), limit - 1);
            Doc.due("one page too many", a.pageOf(limit), NONE);
            Doc.due("one page too many", a.insert(limit), FULL);
        }
        Doc.due("limit 0", a.setPageLimit(0), BAD);
        Doc.due("limit 5", a.setPageLimit(5), BAD);
    }

    private static void cornersOfPage(SpriteAtlas a, int wide, int high) {
        a.pack();
        Doc.due("the upper left pixel", a.pixel(0, 0, 0), 7);
        Doc.due("the lower right pixel", a.pixel(0, wide - 1, high - 1), 0);
        Doc.due("beyond the last column", a.pixel(0, wide, 0), BAD);
        Doc.due("beyond the last row", a.pixel(0, 0, high), BAD);
        Doc.due("its free width", a.freeWidth(0, 1), wide);
        Doc.due("its free height", a.freeHeight(0, 0), high);
    }

    private static void pageSize() {
        Doc.says("Pages", "A page has a width and a height in pixels, each from 4 to 32 (at first 16); the pixels are"
                + " numbered like those of an image.");
        SpriteAtlas a = Check.with("7;");
        cornersOfPage(a, 16, 16);
        for (int[] size : new int[][] {{4, 32}, {32, 4}, {4, 4}, {32, 32}, {5, 31}}) {
            a.setPageSize(size[0], size[1]);
            cornersOfPage(a, size[0], size[1]);
        }
        Doc.due("3 wide", a.setPageSize(3, 4), BAD);
        Doc.due("33 high", a.setPageSize(4, 33), BAD);
    }

    private static void margins() {
        Doc.says("Pages", "There are a padding, a border (both 0 to 3) and an extrusion (0 to 2), at first all 0.");
        SpriteAtlas a = Check.with("7;");
        Doc.due("at first", a.setMargins(3, 3, 2), 0);
        Doc.due("the greatest", a.setMargins(0, 0, 0), 332);
        Doc.due("padding 4", a.setMargins(4, 3, 2), BAD);
        Doc.due("border 4", a.setMargins(3, 4, 2), BAD);
        Doc.due("extrusion 3", a.setMargins(3, 3, 3), BAD);
        a.pack();
        Doc.due("without any", Check.places(a) + " " + Check.free(a, 0), "0:0,0 1,0 15x16; 0,1 16x15");
        a.setMargins(3, 3, 2);
        a.pack();
        Doc.due("with the greatest", Check.places(a) + " " + Check.free(a, 0), "0:5,5 8,0 5x13; 0,8 13x5");
    }

    private static void rotationAtFirst() {
        Doc.says("Pages", "Rotation is on or off (at first off).");
        SpriteAtlas a = onPages(4, 8, "12345;");
        Doc.due("off at first", a.pack(), 1);
        Doc.due("off at first", a.setRotation(true), 0);
        Doc.due("on", a.pack(), 0);
        Doc.due("on", a.setRotation(false), 1);
        Doc.due("off", a.pack(), 1);
    }

    private static void fieldSize() {
        Doc.says("Pages", "The field of a page is a rectangle of positions, whose width and height are those of the"
                + " page, minus twice the border, plus the padding;");
        for (int padding = 0; padding <= 3; padding++) {
            for (int border = 0; border <= 3; border++) {
                for (int extrusion = 0; extrusion <= 2; extrusion++) {
                    SpriteAtlas a = onPages(13, 11, "5;");
                    a.setMargins(padding, border, extrusion);
                    a.pack();
                    a.unplace(0);
                    int wide = 13 - 2 * border + padding, high = 11 - 2 * border + padding;
                    Doc.due("the field", Check.free(a, 0), "0,0 " + wide + "x" + high);
                }
            }
        }
    }

    private static void fieldPositions() {
        Doc.says("Pages", "the position in column x and row y of the field (both from 0) is the pixel in column x +"
                + " border and row y + border of the page.");
        SpriteAtlas a = Check.with(Check.image(3, 2, 1) + Check.image(2, 2, 2));
        for (int border = 0; border <= 3; border++) {
            a.setMargins(1, border, 1);
            a.insert(0);
            // The box has 3 + 2 + 1 columns, the image with its extrusion 5 of them.
            Doc.due("the free rectangle to the right", a.freeX(0, 0) + "," + a.freeY(0, 0), "6,0");
            a.insert(1);
            Doc.due("its first position", a.spriteAt(0, 6 + border, border), 1);
            Doc.due("the position before it, of the padding", a.spriteAt(0, 5 + border, border), NONE);
            Doc.due("position 0, 0", a.spriteAt(0, border, border), 0);
            if (border > 0) {
                Doc.due("the border on the left", a.spriteAt(0, border - 1, border), NONE);
                Doc.due("the border above", a.spriteAt(0, border, border - 1), NONE);
            }
        }
    }

    private static void positionsOutside() {
        Doc.says("Pages", "(The last columns and rows of positions may be outside the page; they are needed for the"
                + " padding only.)");
        SpriteAtlas a = onPages(4, 4, pageFillers(1));
        a.setMargins(3, 0, 0);
        Doc.due("an image as large as the page", a.pack(), 0);
        Doc.due("its place", Check.places(a), "0:0,0");
        Doc.due("nothing is left", a.freeRectangles(0), 0);
        Doc.due("no such pixel", a.pixel(0, 4, 0), BAD);
        Doc.due("no such pixel", a.spriteAt(0, 0, 4), BAD);
        SpriteAtlas b = onPages(4, 4, "12345;1/2/3/4/5;");
        b.setMargins(3, 0, 0);
        Doc.due("no image lies there", b.pack(), 2);
        SpriteAtlas c = onPages(5, 5, "1;2;3;4;");
        c.setMargins(3, 0, 0);
        c.pack();
        Doc.due("four with 3 pixels between", Check.places(c), "0:0,0 0:4,0 0:0,4 0:4,4");
    }

    private static void uprightOrTurned() {
        Doc.says("Pages", "An original is placed on a page upright, which means by orientation 0, or turned, which means"
                + " by orientation 1 of its trimmed image.");
        SpriteAtlas a = onPages(4, 4, Check.image(4, 2, 9) + "000/012/034/056;");
        a.setRotation(true);
        Doc.due("pack()", a.pack(), 0);
        Doc.due("turned", Check.places(a), "0:0,0 0:0,2t");
        Doc.due("by orientation 1", Check.pixels(a, 0, 4, 4), "9999/9999/5310/6420");
        a.setPageSize(4, 5);
        a.pack();
        Doc.due("upright", Check.places(a), "0:0,0 0:0,2");
        Doc.due("by orientation 0", Check.pixels(a, 0, 4, 5), "9999/9999/1200/3400/5600");
    }

    private static void boxSize() {
        Doc.says("Pages", "Its box is a rectangle of positions, whose width and height are those of this image, plus"
                + " twice the extrusion, plus the padding.");
        SpriteAtlas a = Check.with(Check.image(3, 2, 1) + Check.image(3, 2, 2));
        a.setWay(SpriteAtlas.TOP_LEFT);
        for (int padding = 0; padding <= 3; padding++) {
            for (int extrusion = 0; extrusion <= 2; extrusion++) {
                int wide = 3 + 2 * extrusion, high = 2 + 2 * extrusion;
                a.setMargins(padding, 0, extrusion);
                a.setPageSize(32, 6);
                a.pack();
                Doc.due("its width", a.xOf(1) - a.xOf(0), wide + padding);
                a.setPageSize(Math.max(wide, 4), 32);
                a.pack();
                Doc.due("its height", a.yOf(1) - a.yOf(0), high + padding);
                if (extrusion > 0) {
                    a.setPageSize(wide - 1, 32);
                    Doc.due("on a page one column narrower", a.pack(), 2);
                }
            }
        }
        SpriteAtlas b = onPages(4, 16, Check.image(5, 2, 1) + Check.image(5, 2, 2));
        b.setRotation(true);
        b.setMargins(1, 0, 1);
        b.pack();
        Doc.due("of the turned image", Check.places(b), "0:1,1t 0:1,9t");
    }

    private static void boxesApart() {
        Doc.says("Pages", "Boxes lie within the field, and do not overlap.");
        for (int seed = 1; seed <= 40; seed++) {
            SpriteAtlas a = onPages(10 + seed % 5, 16 - seed % 7, "");
            int padding = seed % 4, border = seed / 4 % 4, extrusion = seed / 2 % 3;
            a.setMargins(padding, border, extrusion);
            a.setRotation(seed % 3 > 0);
            a.setWay(seed % WAYS);
            a.draw(seed, 8);
            a.draw(seed + 100, 8);
            a.pack();
            int around = 2 * border - padding;
            int[] field = {10 + seed % 5 - around, 16 - seed % 7 - around};
            for (int page = 0; page < a.pages(); page++) {
                boolean[] taken = new boolean[field[0] * field[1]];
                for (int sprite = 0; sprite < a.sprites(); sprite++) {
                    if (a.pageOf(sprite) == page && a.originalOf(sprite) == NONE) {
                        takeBox(a, sprite, taken, field, new int[] {padding, border, extrusion});
                    }
                }
            }
        }
    }

    private static void takeBox(SpriteAtlas a, int sprite, boolean[] taken, int[] field, int[] margins) {
        boolean turned = a.isTurned(sprite) == 1;
        int growth = 2 * margins[2] + margins[0];
        int left = a.xOf(sprite) - margins[1] - margins[2], top = a.yOf(sprite) - margins[1] - margins[2];
        int right = left + (turned ? a.trimHeight(sprite) : a.trimWidth(sprite)) + growth;
        int bottom = top + (turned ? a.trimWidth(sprite) : a.trimHeight(sprite)) + growth;
        boolean within = left >= 0 && top >= 0 && right <= field[0] && bottom <= field[1];
        Doc.holds("within the field", within);
        for (int i = 0; within && i < (right - left) * (bottom - top); i++) {
            int place = (top + i / (right - left)) * field[0] + left + i % (right - left);
            Doc.holds("not taken before", !taken[place]);
            taken[place] = true;
        }
    }

    private static void imageInBox() {
        Doc.says("Pages", "The upper left pixel of the image lies in the column and row with the number of the extrusion"
                + " of the box (both from 0).");
        SpriteAtlas a = Check.with("12/34;5;");
        for (int extrusion = 0; extrusion <= 2; extrusion++) {
            for (int border = 0; border <= 3; border++) {
                a.setMargins(3, border, extrusion);
                a.insert(0);
                Doc.due("xOf(0)", a.xOf(0), border + extrusion);
                Doc.due("yOf(0)", a.yOf(0), border + extrusion);
                Doc.due("the pixel there", a.pixel(0, a.xOf(0), a.yOf(0)), 1);
            }
        }
    }

    private static void placeOfCopy() {
        Doc.says("Pages", "A copy has the place of its original.");
        SpriteAtlas a = onPages(4, 4, pageFillers(1) + "12/34;31/42;");
        a.setMatching(SpriteAtlas.TURNED);
        a.pack();
        Doc.due("places", Check.places(a), "0:0,0 1:0,0 1:0,0");
        Doc.due("no more room is taken", a.fill(1, true), 4);
    }

    private static void placedSprites() {
        Doc.says("Pages", "A sprite is placed if it, or its original, is.");
        SpriteAtlas a = Check.with("12;12;0;3;");
        a.insert(0);
        Doc.due("an original and its copy", Check.places(a), "0:0,0 0:0,0 - -");
        a.unplace(0);
        a.insert(3);
        Doc.due("neither of them", Check.places(a), "- - - 0:0,0");
    }

    private static void noPosition() {
        Doc.says("Pages", "If a field has no position (its width or height is not above 0), it has no free rectangle.");
        int[][] without = {{4, 32, 0, 2}, {32, 4, 0, 2}, {4, 4, 0, 3}, {5, 32, 1, 3}, {32, 5, 1, 3}, {4, 4, 2, 3},
            {6, 9, 0, 3}, {9, 6, 0, 3}};
        for (int[] s : without) {
            SpriteAtlas a = onPages(s[0], s[1], "7;0;");
            a.setMargins(s[2], s[3], 0);
            Doc.due("pack()", a.pack(), 1);
            Doc.due("insert(0)", a.insert(0), FULL);
            Doc.due("pages()", a.pages(), 0);
            Doc.due("freeRectangles(0)", a.freeRectangles(0), BAD);
            Doc.due("pageBound()", a.pageBound(), NONE);
        }
        SpriteAtlas b = onPages(5, 7, "7;");
        b.setMargins(0, 2, 0);
        Doc.due("one column", b.pack(), 0);
        Doc.due("below the box", Check.free(b, 0), "0,1 1x2");
        b.setPageSize(7, 7);
        b.setMargins(0, 3, 0);
        Doc.due("one position", b.pack(), 0);
        Doc.due("it is taken", b.freeRectangles(0), 0);
    }

    /** What is free, found by trying all rectangles; the loops ascend as the document's numbers do. */
    private static String freeByTrying(boolean[][] taken) {
        StringBuilder all = new StringBuilder();
        for (int y = 0; y < taken.length; y++) {
            for (int x = 0; x < taken[0].length; x++) {
                for (int w = 1; x + w <= taken[0].length; w++) {
                    for (int h = 1; y + h <= taken.length; h++) {
                        if (isFree(taken, x, y, w, h) && !isFree(taken, x - 1, y, w + 1, h)
                                && !isFree(taken, x, y - 1, w, h + 1) && !isFree(taken, x, y, w + 1, h)
                                && !isFree(taken, x, y, w, h + 1)) {
                            all.append(all.length() > 0 ? "; " : "").append(x + "," + y + " " + w + "x" + h);
                        }
                    }
                }
            }
        }
        return all.toString();
    }

    private static boolean isFree(boolean[][] taken, int x, int y, int w, int h) {
        if (x < 0 || y < 0 || y + h > taken.length || x + w > taken[0].length) {
            return false;
        }
        for (int i = 0; i < w * h; i++) {
            if (taken[y + i / w][x + i % w]) {
                return false;
            }
        }
        return true;
    }

    private static void freeRectangles() {
        Doc.says("Pages", "Otherwise the free rectangles of a page are all rectangles of positions, of at least one"
                + " position, that lie within the field, overlap no box, and are not contained in another such"
                + " rectangle.");
        SpriteAtlas a = onPages(5, 5, Check.image(5, 2, 1) + Check.image(2, 3, 2) + "3;");
        a.pack();
        Doc.due("three boxes", Check.free(a, 0), "3,2 2x3; 2,3 3x2");
        a.unplace(0);
        a.unplace(1);
        Doc.due("around one in the middle", Check.free(a, 0), "0,0 2x5; 0,0 5x2; 3,0 2x5; 0,3 5x2");
        a.unplace(2);
        Doc.due("of an empty page", Check.free(a, 0), "0,0 5x5");
        for (int seed = 1; seed <= 30; seed++) {
            compareWithTrying(seed);
        }
        SpriteAtlas b = onPages(4, 4, pageFillers(1));
        b.pack();
        Doc.due("of a full page", b.freeRectangles(0), 0);
        SpriteAtlas c = onPages(4, 4, Check.image(4, 3, 1) + Check.image(3, 1, 2));
        c.pack();
        Doc.due("one position", Check.free(c, 0), "3,3 1x1");
    }

    private static void compareWithTrying(int seed) {
        SpriteAtlas a = onPages(12, 11, "");
        a.setWay(seed % WAYS);
        a.draw(seed, 8);
        a.draw(seed + 77, 8);
        a.pack();
        for (int sprite = seed % 2; sprite < 16; sprite += 2) {
            a.unplace(sprite);
        }
        for (int page = 0; page < a.pages(); page++) {
            boolean[][] taken = new boolean[11][12];
            for (int i = 0; i < 12 * 11; i++) {
                taken[i / 12][i % 12] = a.spriteAt(page, i % 12, i / 12) != NONE;
            }
            Doc.due("with seed " + seed, Check.free(a, page), freeByTrying(taken));
        }
    }

    private static void orderOfFreeRectangles() {
        Doc.says("Pages", "They are numbered from 0 in ascending order of their upper rows, then of their left columns,"
                + " then of their widths.");
        SpriteAtlas a = onPages(4, 4, Check.image(2, 2, 1) + Check.image(2, 2, 2) + Check.image(2, 2, 3)
                + Check.image(2, 2, 4));
        a.pack();
        a.unplace(1);
        a.unplace(2);
        Doc.due("by upper rows, not by left columns", Check.free(a, 0), "2,0 2x2; 0,2 2x2");
        a.unplace(0);
        a.insert(1);
        Doc.due("by widths at the same corner", Check.places(a), "- 0:0,0 - 0:2,2");
        a.unplace(1);
        Doc.due("by widths at the same corner", Check.free(a, 0), "0,0 2x4; 0,0 4x2");
        SpriteAtlas b = onPages(5, 4, "11;" + "2;" + "33;" + Check.image(4, 3, 4));
        b.pack();
        b.unplace(0);
        b.unplace(2);
        Doc.due("places", Check.places(b), "- 0:2,0 - 0:0,1");
        Doc.due("by left columns in the same row", Check.free(b, 0), "0,0 2x1; 3,0 2x1; 4,0 1x4");
    }

    // ---- placing

    private static void fitting() {
        Doc.says("Placing an original", "A box fits into a free rectangle if neither its width nor its height is"
                + " greater.");
        SpriteAtlas a = onPages(4, 5, Check.image(4, 5, 1) + Check.image(5, 5, 2) + Check.image(4, 6, 3)
                + Check.image(5, 4, 4));
        Doc.due("an exact fit", a.insert(0), 0);
        Doc.due("one column wider than a page", a.insert(1), FULL);
        Doc.due("one row higher than a page", a.insert(2), FULL);
        Doc.due("as large as a page, but of another shape", a.insert(3), FULL);
        SpriteAtlas b = onPages(4, 4, Check.image(4, 2, 1) + Check.image(2, 2, 2) + Check.image(3, 1, 3)
                + Check.image(1, 3, 4) + Check.image(2, 2, 5));
        b.setPageLimit(1);
        b.insert(0);
        b.insert(1);
        Doc.due("3 x 1 into 2 x 2", b.insert(2), FULL);
        Doc.due("1 x 3 into 2 x 2", b.insert(3), FULL);
        Doc.due("2 x 2 into 2 x 2", b.insert(4), 0);
        Doc.due("places", Check.places(b), "0:0,0 0:0,2 - - 0:2,2");
    }

    private static void firstPage() {
        Doc.says("Placing an original", "The pages of the atlas are tried in ascending order, and the first page on which"
                + " the upright box fits into some free rectangle, or the turned box, if rotation is on, is taken.");
        SpriteAtlas a = onPages(4, 4, Check.image(4, 2, 1) + Check.image(4, 3, 2) + Check.image(4, 1, 3));
        a.pack();
        Doc.due("the first page, not the one that fits best", Check.places(a), "0:0,0 1:0,0 0:0,2");
        SpriteAtlas b = onPages(4, 4, Check.image(4, 3, 1) + Check.image(3, 4, 2) + Check.image(1, 4, 3));
        b.pack();
        Doc.due("upright on page 1", Check.places(b), "0:0,0 1:0,0 1:3,0");
        b.setRotation(true);
        b.pack();
        Doc.due("turned on page 0", Check.places(b), "0:0,0 1:0,0 0:0,3t");
        SpriteAtlas c = onPages(4, 4, pageFillers(5));
        c.setPageLimit(4);
        c.pack();
        c.unplace(3);
        c.unplace(1);
        Doc.due("of pages 1 and 3", c.insert(4), 1);
        Doc.due("of page 3", c.insert(1), 3);
        Doc.due("of none", c.insert(3), FULL);
    }

    private static void grouped() {
        Doc.says("Placing an original", "(If the atlas is grouped, only pages of the group of the sprite are tried; the"
                + " group of a page is the one that the original had that was placed on it first since it was empty,"
                + " when it was placed.)");
        SpriteAtlas a = onPages(4, 4, "1;2;3;4;5;");
        a.setGrouped(true);
        a.setGroup(1, 3);
        a.setGroup(3, 3);
        a.setGroup(4, 1);
        Doc.due("a third group, of two pages", a.pack(), 1);
        Doc.due("a page for each group", Check.places(a), "0:0,0 1:0,0 0:1,0 1:1,0 -");
        a.setGroup(0, 1);
        Doc.due("not the group that its first one has now", a.insert(4), FULL);
        a.unplace(0);
        Doc.due("nor while another one is there", a.insert(4), FULL);
        a.unplace(2);
        Doc.due("since it is empty", a.insert(4), 0);
        Doc.due("the new group", a.insert(2), FULL);
        Doc.due("the new group", a.insert(0), 0);
        a.unplace(4);
        a.setGroup(0, 2);
        Doc.due("of the one that was placed first, though it is gone", a.insert(4), 0);
        a.setGrouped(false);
        a.pack();
        Doc.due("not grouped", Check.places(a), "0:0,0 0:1,0 0:2,0 0:3,0 0:0,1");
        SpriteAtlas b = onPages(4, 4, Check.image(4, 3, 1) + Check.image(4, 2, 2) + Check.image(4, 1, 3));
        b.setGrouped(true);
        b.pack();
        Doc.due("pages of one group, in ascending order", Check.places(b), "0:0,0 1:0,0 0:0,3");
    }

    /** Four boxes of 2 x 2 fill a page of 4 x 4, and one of 4 x 2 waits, as number 4. */
    private static SpriteAtlas fourSquares(int way) {
        SpriteAtlas a = onPages(4, 4, Check.image(2, 2, 1) + Check.image(2, 2, 2) + Check.image(2, 2, 3)
                + Check.image(2, 2, 4) + Check.image(4, 2, 5));
        a.setPageLimit(1);
        a.setRotation(true);
        a.setWay(way);
        a.pack();
        Doc.due("four squares", Check.places(a), "0:0,0 0:2,0 0:0,2 0:2,2 -");
        return a;
    }

    private static void bestPair() {
        Doc.says("Placing an original", "Of all pairs of a free rectangle of this page and a box, upright or (if rotation"
                + " is on) turned, that fits into it, the pair with the smallest first value is taken, of several the"
                + " one with the smallest second value, of several the one with the lowest free rectangle, and of two of"
                + " these the upright one.");
        for (int way = 0; way < WAYS; way++) {
            SpriteAtlas a = fourSquares(way);
            a.unplace(1);
            a.unplace(2);
            Doc.due("insert(2)", a.insert(2), 0);
            Doc.due("the lowest free rectangle, the upright box, by " + way, Check.places(a), "0:0,0 - 0:2,0 0:2,2 -");
            a = fourSquares(way);
            a.unplace(0);
            a.unplace(2);
            a.unplace(3);
            Doc.due("free", Check.free(a, 0), "0,0 2x4; 0,2 4x2");
            Doc.due("insert(4)", a.insert(4), 0);
            Doc.due("the lowest free rectangle before the upright box, by " + way, Check.places(a), "- 0:2,0 - - 0:0,0t");
            SpriteAtlas b = Check.with(Check.image(3, 3, 1) + Check.image(5, 5, 2));
            b.setRotation(true);
            b.setWay(way);
            b.pack();
            Doc.due("a square is upright, by " + way, b.isTurned(0) + "" + b.isTurned(1), "00");
        }
        SpriteAtlas c = Check.with(Check.image(5, 2, 1));
        c.setRotation(true);
        c.pack();
        Doc.due("of two that are equal the upright one", c.isTurned(0), 0);
    }

    private static void upperLeftCorner() {
        Doc.says("Placing an original", "The box is placed into the upper left corner of the free rectangle.");
        for (int way = 0; way < WAYS; way++) {
            SpriteAtlas a = onPages(9, 4, Check.image(5, 4, 1) + "2;");
            a.setWay(way);
            a.pack();
            Doc.due("the only free rectangle", Check.places(a), "0:0,0 0:5,0");
            SpriteAtlas b = onPages(4, 9, Check.image(4, 5, 1) + "2;");
            b.setWay(way);
            b.pack();
            Doc.due("the only free rectangle", Check.places(b), "0:0,0 0:0,5");
        }
    }

    /** Where the second box comes by each way: R to the right of the first one, B below it. */
    private static void second(int pageW, int pageH, String first, String second, String want) {
        SpriteAtlas a = onPages(pageW, pageH, first + second);
        StringBuilder found = new StringBuilder();
        for (int way = 0; way < WAYS; way++) {
            a.setWay(way);
            a.pack();
            found.append(a.xOf(1) > 0 && a.yOf(1) == 0 ? 'R' : a.xOf(1) == 0 && a.yOf(1) > 0 ? 'B' : '?');
        }
        Doc.due("by the four ways", found.toString(), want);
    }

    private static void waysByFirstValue() {
        Doc.says("Placing an original", "Let w and h be the width and height of the free rectangle minus those of the"
                + " box. The values are - by SHORT_SIDE (at first): the smaller one of w and h; the greater one of them;"
                + " - by LONG_SIDE: the greater one of w and h; the smaller one of them; - by AREA: the number of"
                + " positions of the free rectangle minus that of the box; the smaller one of w and h; - by TOP_LEFT:"
                + " the upper row of the free rectangle plus the height of the box; the left column of the free"
                + " rectangle.");
        String first = Check.image(4, 5, 1);
        // To the right 6 x 12 is free, below 10 x 7. For 5 x 4, w and h are 1, 8 and 5, 3.
        second(10, 12, first, Check.image(5, 4, 2), "RBBR");
        // 3 x 6: 3, 6 and 7, 1
        second(10, 12, first, Check.image(3, 6, 2), "BRBR");
        // On 14 x 8, 10 x 8 is free to the right, 14 x 3 below. For 2 x 3: 8, 5 and 12, 0
        second(14, 8, first, Check.image(2, 3, 2), "BRBR");
        // On 14 x 10, 10 x 10 and 14 x 5. For 7 x 1: 3, 9 and 7, 4
        second(14, 10, first, Check.image(7, 1, 2), "RBBR");
        // On 8 x 16, 4 x 16 and 8 x 11. For 3 x 8: 1, 8 and 5, 3
        second(8, 16, first, Check.image(3, 8, 2), "RBRR");
    }

    private static void waysBySecondValue() {
        String first = Check.image(4, 5, 1);
        // On 10 x 12, 6 x 12 and 10 x 7. For 4 x 5: 2, 7 and 6, 2
        second(10, 12, first, Check.image(4, 5, 2), "BBBR");
        // 3 x 5: 3, 7 and 7, 2
        second(10, 12, first, Check.image(3, 5, 2), "BBBR");
        // On 12 x 12 beside a square, 8 x 12 and 12 x 8. For 3 x 6: 5, 6 and 9, 2
        second(12, 12, Check.image(4, 4, 1), Check.image(3, 6, 2), "BRBR");
        // 6 x 3: 2, 9 and 6, 5
        second(12, 12, Check.image(4, 4, 1), Check.image(6, 3, 2), "RBRR");
        // By AREA upright and turned are equal in the first value. 7 x 3: 1, 13 and 5, 9; on the other page 9, 5 and 13, 1
        SpriteAtlas a = onPages(8, 16, Check.image(7, 3, 1));
        a.setRotation(true);
        a.setWay(SpriteAtlas.AREA);
        a.pack();
        Doc.due("upright by AREA", a.isTurned(0), 0);
        a.setPageSize(16, 8);
        a.pack();
        Doc.due("turned by AREA", a.isTurned(0), 1);
    }

    /** The upright box reaches down as far in one free rectangle as the turned one in another, more to the left. */
    private static void topLeftBySecondValue() {
        SpriteAtlas a = onPages(5, 4, "111;" + Check.image(5, 2, 2) + "33;44444;" + Check.image(2, 3, 5));
        a.setPageLimit(1);
        a.setRotation(true);
        a.setWay(SpriteAtlas.TOP_LEFT);
        a.pack();
        Doc.due("a full page", Check.places(a), "0:0,0 0:0,1 0:3,0 0:0,3 -");
        a.unplace(1);
        a.unplace(2);
        Doc.due("free", Check.free(a, 0), "3,0 2x3; 0,1 5x2");
        Doc.due("insert(4)", a.insert(4), 0);
        Doc.due("places", Check.places(a), "0:0,0 - - 0:0,3 0:0,1t");
    }

    private static void newPage() {
        Doc.says("Placing an original", "If the box does not fit on any page, and there are fewer pages than the limit,"
                + " and it would fit on an empty page, a new page is added, and the original is placed on it in this"
                + " way. Otherwise it is not placed.");
        SpriteAtlas a = onPages(4, 7, Check.image(4, 7, 1) + Check.image(5, 1, 2) + Check.image(1, 8, 3)
                + Check.image(3, 2, 4) + Check.image(4, 6, 5));
        a.setWay(SpriteAtlas.LONG_SIDE);
        Doc.due("pack()", a.pack(), 3);
        Doc.due("a new page", Check.places(a), "0:0,0 - - 1:0,0 -");
        Doc.due("no page for what would not fit", a.pages(), 2);
        Doc.due("as many pages as the limit", a.insert(4), FULL);
        a.setPageLimit(3);
        a.setRotation(true);
        Doc.due("pack()", a.pack(), 1);
        Doc.due("turned on a new page, in this way", Check.places(a), "0:0,0 1:0,0t - 1:0,5 2:0,0");
        a.setPageLimit(1);
        Doc.due("pack()", a.pack(), 4);
        Doc.due("one page", Check.places(a), "0:0,0 - - - -");
        SpriteAtlas b = onPages(4, 4, "1;2;");
        b.setGrouped(true);
        b.setGroup(1, 2);
        b.pack();
        Doc.due("a page of another group is none that it fits on", Check.places(b), "0:0,0 1:0,0");
    }

    private static void emptyPage() {
        Doc.says("Placing an original", "A page that has no box any more stays a page of the atlas as an empty one (which"
                + " is of any group).");
        SpriteAtlas a = onPages(4, 4, pageFillers(2) + "3;");
        a.setGrouped(true);
        a.pack();
        a.unplace(1);
        a.unplace(0);
        Doc.due("two empty pages", a.pages(), 2);
        Doc.due("free", Check.free(a, 0) + " and " + Check.free(a, 1), "0,0 4x4 and 0,0 4x4");
        Doc.due("no page after them", a.freeRectangles(2), BAD);
        a.setGroup(2, 3);
        Doc.due("of group 3 now", a.insert(2), 0);
        Doc.due("of group 0", a.insert(0), 1);
        Doc.due("places", Check.places(a), "1:0,0 - 0:0,0");
        SpriteAtlas b = onPages(4, 4, "1;2;3;4;");
        b.setGroup(1, 1);
        b.setGroup(3, 1);
        b.setGrouped(true);
        b.pack();
        Doc.due("groups 0 and 1", Check.places(b), "0:0,0 1:0,0 0:1,0 1:1,0");
        for (int sprite = 0; sprite < 4; sprite++) {
            b.unplace(sprite);
        }
        for (int sprite : new int[] {1, 0, 3, 2}) {
            b.insert(sprite);
        }
        Doc.due("groups 1 and 0", Check.places(b), "1:0,0 0:0,0 1:1,0 0:1,0");
    }

    private static void toPack() {
        Doc.says("Placing an original", "To pack means: the atlas becomes empty (it has no pages then), and then all"
                + " originals are placed, one after the other, by their order:");
        SpriteAtlas a = onPages(4, 4, Check.image(4, 2, 1) + Check.image(1, 2, 2) + Check.image(3, 2, 3) + "0;2/2;");
        a.insert(1);
        a.insert(2);
        a.insert(0);
        Doc.due("inserted", Check.places(a), "1:0,0 0:0,0 0:0,2 - 0:0,0");
        Doc.due("pack()", a.pack(), 0);
        Doc.due("one page", a.pages(), 1);
        Doc.due("packed", Check.places(a), "0:0,0 0:0,2 0:1,2 - 0:0,2");
        a.drop(0);
        a.drop(0);
        a.drop(0);
        a.drop(1);
        Doc.due("blank ones alone", a.pack(), 0);
        Doc.due("no pages", a.pages(), 0);
    }

    /** By TOP_LEFT all lie in the uppermost row of a wide page, from left to right as they were placed. */
    private static String packedOrder(SpriteAtlas a, int order) {
        a.setOrder(order);
        a.pack();
        int[] starting = new int[32];
        for (int sprite = 0, n = a.sprites(); sprite < n; sprite++) {
            int x = a.originalOf(sprite) == NONE ? a.xOf(sprite) : NONE;
            if (x >= 0) {
                starting[x] = sprite + 1;
            }
        }
        StringBuilder text = new StringBuilder();
        for (int x = 0; x < 32; x++) {
            text.append(starting[x] > 0 ? Integer.toString(starting[x] - 1) : "");
        }
        return text.toString();
    }

    private static void orders() {
        SpriteAtlas a = onPages(32, 4, Check.image(2, 2, 1) + "2222;3/3/3/3;444;55555;" + Check.image(4, 2, 6) + "777;0;1;");
        a.setWay(SpriteAtlas.TOP_LEFT);
        Doc.says("Placing an original", "BY_NUMBER (at first) in ascending order of their numbers;");
        Doc.due("at first", a.setOrder(SpriteAtlas.BY_AREA), SpriteAtlas.BY_NUMBER);
        Doc.due("BY_NUMBER", packedOrder(a, SpriteAtlas.BY_NUMBER), "01234568");
        Doc.says("Placing an original", "BY_AREA in descending order of the areas of their trimmed images;");
        Doc.due("BY_AREA", packedOrder(a, SpriteAtlas.BY_AREA), "54012368");
        Doc.says("Placing an original", "BY_SIDE in descending order of the longer sides of these images, then of the"
                + " shorter sides;");
        Doc.due("BY_SIDE", packedOrder(a, SpriteAtlas.BY_SIDE), "45123608");
        Doc.says("Placing an original", "BY_HEIGHT in descending order of their heights, then of their widths;");
        Doc.due("BY_HEIGHT", packedOrder(a, SpriteAtlas.BY_HEIGHT), "25041368");
        Doc.says("Placing an original", "those that are equal in this in ascending order of their numbers.");
        SpriteAtlas b = onPages(32, 4, "11;22;3/3;4/4;" + Check.image(2, 2, 5) + "6;7;");
        b.setWay(SpriteAtlas.TOP_LEFT);
        Doc.due("BY_NUMBER", packedOrder(b, SpriteAtlas.BY_NUMBER), "0123456");
        Doc.due("equal areas", packedOrder(b, SpriteAtlas.BY_AREA), "4012356");
        Doc.due("equal sides", packedOrder(b, SpriteAtlas.BY_SIDE), "4012356");
        Doc.due("equal heights and widths", packedOrder(b, SpriteAtlas.BY_HEIGHT), "4230156");
        SpriteAtlas c = onPages(32, 8, Check.image(8, 2, 3) + Check.image(7, 8, 4) + Check.image(8, 8, 5));
        c.setWay(SpriteAtlas.TOP_LEFT);
        Doc.due("the longer sides first", packedOrder(c, SpriteAtlas.BY_SIDE), "210");
        Doc.due("the heights first", packedOrder(c, SpriteAtlas.BY_HEIGHT), "210");
        SpriteAtlas d = onPages(32, 8, Check.image(3, 7, 1) + Check.image(8, 1, 2) + Check.image(7, 8, 3));
        d.setWay(SpriteAtlas.TOP_LEFT);
        Doc.due("BY_AREA", packedOrder(d, SpriteAtlas.BY_AREA), "201");
        Doc.due("BY_SIDE", packedOrder(d, SpriteAtlas.BY_SIDE), "210");
        Doc.due("BY_HEIGHT", packedOrder(d, SpriteAtlas.BY_HEIGHT), "201");
        trimmedOrder();
    }

    private static void trimmedOrder() {
        Doc.says("Placing an original", "of the areas of their trimmed images;");
        SpriteAtlas a = onPages(32, 8, "22;" + "00000000/".repeat(7) + "00000001;");
        a.setWay(SpriteAtlas.TOP_LEFT);
        for (int order = SpriteAtlas.BY_AREA; order <= SpriteAtlas.BY_HEIGHT; order++) {
            a.setTrimming(true);
            Doc.due("trimmed, by order " + order, packedOrder(a, order), "01");
            a.setTrimming(false);
            Doc.due("whole, by order " + order, packedOrder(a, order), "10");
        }
    }

    // ---- pixels and records

    private static void imagePixels() {
        Doc.says("Pixels of pages", "A pixel of a page that belongs to the placed image of an original has the color of"
                + " the pixel of this image.");
        SpriteAtlas a = onPages(4, 4, "1234/5678/9012/3456;");
        a.pack();
        Doc.due("an image as large as the page", Check.pixels(a, 0, 4, 4), "1234/5678/9012/3456");
        SpriteAtlas b = onPages(4, 5, "12345/67890;");
        b.setRotation(true);
        b.pack();
        Doc.due("a turned image", Check.pixels(b, 0, 4, 5), "6100/7200/8300/9400/0500");
        SpriteAtlas c = onPages(7, 4, "12/34;567/089;98/76/54;21;");
        c.setWay(SpriteAtlas.TOP_LEFT);
        c.pack();
        Doc.due("several images", Check.places(c), "0:0,0 0:2,0 0:5,0 0:0,2");
        Doc.due("several images", Check.pixels(c, 0, 7, 4), "1256798/3408976/2100054/0000000");
        c.setPageSize(5, 4);
        c.pack();
        Doc.due("on page 1", Check.places(c), "0:0,0 0:2,0 1:0,0 0:0,2");
        Doc.due("on page 1", Check.pixels(c, 1, 5, 4), "98000/76000/54000/00000");
    }

    private static void extrudedPixels() {
        Doc.says("Pixels of pages", "With an extrusion of e, all other pixels in the rectangle that extends e pixels"
                + " beyond the image on all four sides have the color of the nearest pixel of the image (the one in the"
                + " nearest column and the nearest row of it).");
        SpriteAtlas a = onPages(8, 8, "12/34;");
        a.setMargins(0, 1, 1);
        a.pack();
        Doc.due("e = 1", Check.pixels(a, 0, 6, 6), "000000/011220/011220/033440/033440/000000");
        a.setMargins(0, 0, 2);
        a.pack();
        Doc.due("e = 2", Check.pixels(a, 0, 7, 7), "1112220/1112220/1112220/3334440/3334440/3334440/0000000");
        a.setMargins(0, 0, 0);
        a.pack();
        Doc.due("e = 0", Check.pixels(a, 0, 4, 4), "1200/3400/0000/0000");
        SpriteAtlas b = onPages(4, 4, "01/20;");
        b.setMargins(0, 0, 1);
        b.pack();
        Doc.due("transparent pixels, up to all edges of the page", Check.pixels(b, 0, 4, 4), "0011/0011/2200/2200");
        SpriteAtlas c = onPages(7, 32, "123;");
        c.setMargins(3, 0, 2);
        c.pack();
        Doc.due("one row", Check.pixels(c, 0, 7, 6), "1112333/1112333/1112333/1112333/1112333/0000000");
        SpriteAtlas e = onPages(9, 7, "12/34;5;67;");
        e.setMargins(1, 0, 1);
        e.setWay(SpriteAtlas.TOP_LEFT);
        e.pack();
        Doc.due("several images", Check.places(e), "0:1,1 0:6,1 0:6,5");
        Doc.due("several images", Check.pixels(e, 0, 9, 7), "112205550/112205550/334405550/334400000/000006677/"
                + "000006677/000006677");
        SpriteAtlas d = onPages(6, 8, "12345/67890;");
        d.setRotation(true);
        d.setMargins(0, 1, 1);
        d.setPageSize(6, 9);
        d.pack();
        Doc.due("turned", Check.pixels(d, 0, 6, 9), "000000/066110/066110/077220/088330/099440/000550/000550/000000");
    }

    private static void otherPixels() {
        Doc.says("Pixels of pages", "All other pixels have the color 0.");
        SpriteAtlas a = onPages(6, 6, "5;5;0;6;");
        a.setMargins(2, 1, 0);
        a.pack();
        Doc.due("border and padding", Check.pixels(a, 0, 6, 6), "000000/050060/000000/000000/000000/000000");
        a.unplace(0);
        Doc.due("what was removed", Check.pixels(a, 0, 6, 6), "000000/000060/000000/000000/000000/000000");
        a.unplace(3);
        Doc.due("an empty page", Check.pixels(a, 0, 6, 6), "000000/000000/000000/000000/000000/000000");
    }

    private static void records() {
        Doc.says("Pixels of pages", "The record of a placed sprite is the smallest orientation q such that orientation q"
                + " of the image that is placed there is the trimmed image of the sprite.");
        // What is placed for 12345, turned, is 1/2/3/4/5.
        SpriteAtlas a = onPages(4, 16, "12345;1/2/3/4/5;54321;5/4/3/2/1;012345;77777;6/6/6/6/6;");
        a.setRotation(true);
        a.setMatching(SpriteAtlas.ANY);
        a.pack();
        Doc.due("turned", a.isTurned(0) + "" + a.isTurned(5) + a.isTurned(6), "110");
        Doc.due("records", "" + a.recordOf(0) + a.recordOf(1) + a.recordOf(2) + a.recordOf(3) + a.recordOf(4), "30123");
        Doc.due("the smallest of several", "" + a.recordOf(5) + a.recordOf(6), "10");
        recordsOfTurnedAndMirrored();
        SpriteAtlas b = onPages(16, 16, "12/34;31/42;43/21;24/13;21/43;42/31;34/12;13/24;");
        b.setMatching(SpriteAtlas.ANY);
        b.pack();
        for (int q = 0; q < 8; q++) {
            Doc.due("upright, recordOf(" + q + ")", b.recordOf(q), q);
        }
        b.setMatching(SpriteAtlas.NEVER);
        b.pack();
        Doc.due("without copies", b.recordOf(0) + b.recordOf(7), 0);
        b.unplace(7);
        Doc.due("not placed", b.recordOf(7), NONE);
        // An image that is its own mirror image is turned the smallest way.
        SpriteAtlas c = onPages(4, 16, "12321/00400;04000/33333;");
        c.setRotation(true);
        c.pack();
        Doc.due("a turned one", c.isTurned(0) + "" + c.recordOf(0), "13");
        Doc.due("another", c.isTurned(1) + "" + c.recordOf(1), "13");
    }

    /** All orientations of an image that is placed turned, which is as its orientation 1. */
    private static void recordsOfTurnedAndMirrored() {
        SpriteAtlas a = Check.with("12345/60000;61/02/03/04/05;00006/54321;50/40/30/20/16;");
        Check.read(a, "54321/00006;05/04/03/02/61;60000/12345;16/20/30/40/50;");
        a.setMatching(SpriteAtlas.ANY);
        a.setRotation(true);
        a.setPageSize(4, 10);
        a.pack();
        Doc.due("turned", a.isTurned(0), 1);
        String records = "";
        for (int sprite = 0; sprite < 8; sprite++) {
            Doc.due("orientationOf(" + sprite + ")", a.orientationOf(sprite), sprite == 0 ? NONE : sprite);
            records += a.recordOf(sprite);
        }
        Doc.due("records", records, "30125674");
    }

    // ---- the history

    /** Three sprites, the first two placed; nothing in the history. */
    private static SpriteAtlas fresh() {
        SpriteAtlas a = Check.with("12;3;44;");
        a.insert(0);
        a.insert(1);
        a.keep(0);
        a.restore(0);
        Doc.due("undo() after restore()", a.undo(), NOT_POSSIBLE);
        Check.text(a, "5;6;");
        return a;
    }

    private static final Call[] CHANGES = {
        a -> a.read(), a -> a.draw(1, 1), a -> a.setGroup(0, 1),
        a -> a.pack(), a -> a.insert(2), a -> a.unplace(1),
        a -> a.setPixel(0, 0, 0, 5), a -> a.drop(0), a -> a.setPageSize(5, 5), a -> a.setPageLimit(1),
        a -> a.setMargins(1, 1, 1), a -> a.setTrimming(false), a -> a.setMatching(3), a -> a.setRotation(true),
        a -> a.setGrouped(true), a -> a.setOrder(1), a -> a.setWay(1)
    };

    private static final Call[] NO_CHANGES = {
        a -> a.append('7'), a -> a.clearText(), a -> a.faultPosition(), a -> a.sprites(), a -> a.width(0),
        a -> a.height(0), a -> a.color(0, 0, 0), a -> a.groupOf(0), a -> a.trimLeft(0), a -> a.trimTop(0),
        a -> a.trimWidth(0), a -> a.trimHeight(0), a -> a.originalOf(0), a -> a.orientationOf(0), a -> a.pageOf(0),
        a -> a.xOf(0), a -> a.yOf(0), a -> a.isTurned(0), a -> a.recordOf(0), a -> a.pages(), a -> a.pixel(0, 0, 0),
        a -> a.spriteAt(0, 0, 0), a -> a.usedWidth(0), a -> a.usedHeight(0), a -> a.freeRectangles(0),
        a -> a.freeX(0, 0), a -> a.freeY(0, 0), a -> a.freeWidth(0, 0), a -> a.freeHeight(0, 0),
        a -> a.fill(0, true), a -> a.unplaced(), a -> a.pageBound(), a -> a.bestMethod(), a -> a.smallestPage(),
        a -> a.print(0), a -> a.printed(0), a -> a.keep(1), a -> a.restore(0), a -> (int) a.checksum()
    };

    private static void changes() {
        Doc.says("Changes", "The calls of read(), setPixel(), drop(), draw(), setGroup(), pack(), insert(), unplace() and"
                + " of the methods that set settings, if they return no error, are changes.");
        for (int i = 0; i < CHANGES.length; i++) {
            SpriteAtlas a = fresh();
            long before = a.checksum();
            Doc.holds("change " + i + " is no error", CHANGES[i].on(a) >= 0);
            Doc.due("undo() after change " + i, a.undo(), 0);
            Doc.due("checksum() then", a.checksum(), before);
            Doc.due("undo() again", a.undo(), NOT_POSSIBLE);
        }
        for (int i = 0; i < NO_CHANGES.length; i++) {
            SpriteAtlas a = fresh();
            NO_CHANGES[i].on(a);
            Doc.due("undo() after " + i + ", which is no change", a.undo(), NOT_POSSIBLE);
        }
        SpriteAtlas a = fresh();
        a.setGroup(9, 0);
        a.insert(0);
        a.unplace(2);
        a.draw(1, 9);
        Doc.due("undo() after errors", a.undo(), NOT_POSSIBLE);
        a.setGroup(0, 0);
        Doc.due("undo() of a change that changes nothing", a.undo(), 0);
    }

    private static void fiveStates() {
        Doc.says("Changes", "A history of at most 5 states is kept: before each change, the sprites with their groups,"
                + " the settings and the atlas are recorded as a state;");
        SpriteAtlas a = fresh();
        long[] before = new long[5];
        Call[] some = {CHANGES[2], CHANGES[4], CHANGES[0], CHANGES[13], CHANGES[3]};
        for (int i = 0; i < 5; i++) {
            before[i] = a.checksum();
            some[i].on(a);
        }
        for (int i = 4; i >= 0; i--) {
            Doc.due("undo()", a.undo(), i);
            Doc.due("checksum()", a.checksum(), before[i]);
        }
        Doc.due("no sixth state", a.undo(), NOT_POSSIBLE);
        statesOf24();
        statesOfPlaces();
    }

    private static String colors(SpriteAtlas a) {
        StringBuilder text = new StringBuilder();
        for (int sprite = 0; sprite < a.sprites(); sprite++) {
            text.append(a.color(sprite, 0, 0));
        }
        return text.toString();
    }

    private static void statesOf24() {
        String before = "123456789123456789123456";
        SpriteAtlas a = Check.with(before.replaceAll("(.)", "$1;"));
        for (int sprite : new int[] {0, 11, 23}) {
            a.drop(sprite);
            Doc.due("one less", a.sprites(), 23);
            a.undo();
            Doc.due("all pixels of 24 sprites", colors(a), before);
        }
        a.setGroup(23, 3);
        a.drop(0);
        a.undo();
        Doc.due("all groups", a.groupOf(22) + " " + a.groupOf(23), "0 3");
    }

    private static void statesOfPlaces() {
        SpriteAtlas a = Check.with(Check.image(5, 2, 1) + Check.image(4, 5, 2) + Check.image(4, 4, 3)
                + Check.image(4, 5, 4));
        a.setPageLimit(4);
        a.setRotation(true);
        a.setPageSize(4, 5);
        a.pack();
        String packed = "0:0,0t 1:0,0 2:0,0 3:0,0";
        Doc.due("four pages", Check.places(a), packed);
        long sum = a.checksum();
        a.setPageSize(8, 8);
        a.pack();
        Doc.due("two pages", Check.places(a), "0:0,0 0:0,2 0:4,2 1:0,0");
        a.undo();
        a.undo();
        Doc.due("four pages again", Check.places(a), packed);
        Doc.due("checksum()", a.checksum(), sum);
        Doc.due("what is free on them", Check.free(a, 0) + " and " + Check.free(a, 2) + " and " + Check.free(a, 3),
                "2,0 2x5 and 0,4 4x1 and ");
    }

    private static void oldestState() {
        Doc.says("Changes", "when there would be more than 5, the oldest one is dropped; undo() removes the latest one"
                + " and restores it.");
        SpriteAtlas a = fresh();
        for (int i = 0; i <= 12; i++) {
            a.setPixel(0, 0, 0, i % 10);
        }
        for (int left = 4; left >= 0; left--) {
            Doc.due("undo()", a.undo(), left);
            Doc.due("the color before", a.color(0, 0, 0), (left + 7) % 10);
        }
        Doc.due("undo()", a.undo(), NOT_POSSIBLE);
        Doc.due("the oldest one that is kept", a.color(0, 0, 0), 7);
        for (int i = 0; i < 3; i++) {
            a.setPixel(0, 0, 0, 9 - i);
        }
        Doc.due("undo() after new changes", a.undo(), 2);
        a.setPixel(0, 1, 0, 6);
        Doc.due("undo() after another", a.undo(), 2);
        Doc.due("colors", 10 * a.color(0, 0, 0) + a.color(0, 1, 0), 82);
    }

    private static void emptiedAtlas() {
        Doc.says("Changes", "A change of a pixel or of a setting, and drop(), make the atlas empty, even if nothing else"
                + " changes by them; read(), draw() and setGroup() do not.");
        Call[] same = {a -> a.setPixel(0, 0, 0, 1), a -> a.setPageSize(16, 16), a -> a.setPageLimit(2),
            a -> a.setMargins(0, 0, 0), a -> a.setTrimming(true), a -> a.setMatching(1), a -> a.setRotation(false),
            a -> a.setGrouped(false), a -> a.setOrder(0), a -> a.setWay(0)};
        for (int i = 0; i < same.length; i++) {
            SpriteAtlas a = fresh();
            Doc.holds("change " + i + " is no error", same[i].on(a) >= 0);
            Doc.due("pages() after change " + i, a.pages(), 0);
            Doc.due("places after change " + i, Check.places(a), "- - -");
            Doc.due("unplaced() after change " + i, a.unplaced(), 3);
        }
        SpriteAtlas a = fresh();
        a.drop(2);
        Doc.due("after drop() of one that is not placed", Check.places(a) + " on " + a.pages(), "- - on 0");
        for (int i = 0; i < 3; i++) {
            SpriteAtlas b = fresh();
            CHANGES[i].on(b);
            Doc.due("pages() after read(), draw() or setGroup()", b.pages(), 1);
            Doc.due("places then", Check.places(b).substring(0, 13), "0:0,0 0:2,0 -");
        }
    }

    private static void addedCopies() {
        Doc.says("Changes", "(A sprite that is added may be a copy of one that is placed.)");
        SpriteAtlas a = fresh();
        Check.read(a, "012;3;44;");
        Doc.due("places", Check.places(a), "0:0,0 0:2,0 - 0:0,0 0:2,0 -");
        a.insert(2);
        Doc.due("places", Check.places(a), "0:0,0 0:2,0 0:3,0 0:0,0 0:2,0 0:3,0");
        SpriteAtlas b = new SpriteAtlas();
        b.draw(9, 4);
        b.pack();
        String places = Check.places(b);
        b.draw(9, 4);
        Doc.due("drawn copies", Check.places(b), places + " " + places);
    }
}
