/** Promises 21 to 38, sentence by sentence: settings, packing, the history, and places. */
public final class Promises21To38Test {
    private static final int BAD = SpriteAtlas.BAD_VALUE, FULL = SpriteAtlas.FULL, NONE = SpriteAtlas.NONE;
    private static final int NOT_POSSIBLE = SpriteAtlas.NOT_POSSIBLE;
    private static final int LOW = Integer.MIN_VALUE, HIGH = Integer.MAX_VALUE;

    private interface Call {
        int with(SpriteAtlas atlas, int argument);
    }

    private interface Switch {
        int with(SpriteAtlas atlas, boolean on);
    }

    public static void main(String[] args) {
        pageSize();
        pageLimit();
        margins();
        marginsReturned();
        trimming();
        matching();
        rotation();
        grouped();
        order();
        way();
        pack();
        insert();
        insertErrors();
        unplace();
        unplaceErrors();
        undo();
        undoOfSettings();
        undoneStates();
        pageOf();
        xOf();
        yOf();
        isTurned();
        recordOf();
        Doc.finish(Doc.promises(21, 38));
    }

    // ---- settings

    /** The argument of a setting: what is wrong is refused, and leaves setting and atlas as they are. */
    private static void range(String promise, String sentence, int[] ends, Call call) {
        Doc.says(promise, sentence);
        int[] wrong = {ends[0] - 1, ends[1] + 1, LOW, HIGH, -ends[1] - 1};
        SpriteAtlas a = Check.with("1;");
        a.pack();
        for (int value : wrong) {
            Doc.due("with " + value, call.with(a, value), BAD);
        }
        Doc.due("the atlas stays", a.pages(), 1);
        Doc.due("no change", a.undo(), 1);
        for (int value = ends[0]; value <= ends[1]; value++) {
            Doc.holds("with " + value, call.with(a, value) >= 0);
            Doc.due("the atlas is empty", a.pages(), 0);
        }
        int last = call.with(a, ends[0]);
        for (int value : wrong) {
            Doc.due("with " + value, call.with(a, value), BAD);
        }
        call.with(a, ends[1]);
        Doc.due("the value before", call.with(a, ends[0]), last);
    }

    private static void pageSize() {
        Doc.says("21", "Sets the size of all pages.");
        SpriteAtlas a = Check.with(Check.image(4, 3, 1) + Check.image(4, 3, 2));
        a.setPageSize(4, 5);
        a.pack();
        for (int page = 0; page < 2; page++) {
            Doc.due("the last pixel", a.pixel(page, 3, 4), 0);
            Doc.due("no more columns", a.pixel(page, 4, 0), BAD);
            Doc.due("no more rows", a.pixel(page, 0, 5), BAD);
        }
        range("21", "- `width`: the new width, 4 to 32", new int[] {4, 32}, (x, n) -> x.setPageSize(n, 7));
        range("21", "- `height`: the new height, 4 to 32", new int[] {4, 32}, (x, n) -> x.setPageSize(7, n));
        Doc.says("21", "Returns 100 * the previous width + the previous height; BAD_VALUE.");
        SpriteAtlas b = new SpriteAtlas();
        Doc.due("at first", b.setPageSize(4, 32), 1616);
        Doc.due("4, 32", b.setPageSize(32, 4), 432);
        Doc.due("32, 4", b.setPageSize(4, 4), 3204);
        Doc.due("4, 4", b.setPageSize(32, 32), 404);
        Doc.due("32, 32", b.setPageSize(16, 16), 3232);
        Doc.due("both are wrong", b.setPageSize(3, 33), BAD);
        Doc.due("16, 16", b.setPageSize(16, 16), 1616);
    }

    private static void pageLimit() {
        range("22", "- `pages`: the new page limit, 1 to 4", new int[] {1, 4}, (x, n) -> x.setPageLimit(n));
        Doc.says("22", "Returns the previous one; BAD_VALUE.");
        SpriteAtlas a = new SpriteAtlas();
        Doc.due("at first", a.setPageLimit(1), 2);
        Doc.due("1", a.setPageLimit(4), 1);
        Doc.due("4", a.setPageLimit(4), 4);
        Doc.due("5 is none", a.setPageLimit(5), BAD);
        Doc.due("4", a.setPageLimit(3), 4);
    }

    private static void margins() {
        range("23", "- `padding`: the new padding, 0 to 3", new int[] {0, 3}, (x, n) -> x.setMargins(n, 1, 1));
        range("23", "- `border`: the new border, 0 to 3", new int[] {0, 3}, (x, n) -> x.setMargins(1, n, 1));
        range("23", "- `extrusion`: the new extrusion, 0 to 2", new int[] {0, 2}, (x, n) -> x.setMargins(1, 1, n));
    }

    private static void marginsReturned() {
        Doc.says("23", "Returns 100 * the previous padding + 10 * the previous border + the previous extrusion;"
                + " BAD_VALUE.");
        SpriteAtlas a = new SpriteAtlas();
        Doc.due("at first", a.setMargins(3, 0, 0), 0);
        Doc.due("3, 0, 0", a.setMargins(0, 3, 0), 300);
        Doc.due("0, 3, 0", a.setMargins(0, 0, 2), 30);
        Doc.due("0, 0, 2", a.setMargins(3, 3, 2), 2);
        Doc.due("all are wrong", a.setMargins(4, -1, 3), BAD);
        Doc.due("3, 3, 2", a.setMargins(1, 2, 0), 332);
        Doc.due("1, 2, 0", a.setMargins(0, 0, 0), 120);
    }

    private static void onAndOff(String promise, String sentence, int first, Switch call) {
        Doc.says(promise, sentence);
        SpriteAtlas a = Check.with("1;");
        Doc.due("at first", call.with(a, true), first);
        a.pack();
        Doc.due("it was on", call.with(a, true), 1);
        Doc.due("the atlas is empty", a.pages(), 0);
        Doc.due("it was on", call.with(a, false), 1);
        Doc.due("it was off", call.with(a, false), 0);
        Doc.due("it was off", call.with(a, true), 0);
        a.undo();
        Doc.due("it is off again", call.with(a, true), 0);
    }

    private static void trimming() {
        onAndOff("24", "Returns 1 if it was on, 0 if not.", 1, (a, on) -> a.setTrimming(on));
        Doc.says("24", "- `on`: whether trimming is on from now on");
        SpriteAtlas a = Check.with("0010;");
        a.setTrimming(false);
        Doc.due("off", a.trimWidth(0), 4);
        Check.read(a, "000;");
        Doc.due("off for later sprites too", a.trimWidth(1), 3);
        a.setTrimming(true);
        Doc.due("on", 10 * a.trimWidth(0) + a.trimWidth(1), 10);
    }

    private static void matching() {
        range("25", "- `matching`: the new matching, NEVER to ANY", new int[] {SpriteAtlas.NEVER, SpriteAtlas.ANY},
                (x, n) -> x.setMatching(n));
        Doc.says("25", "Returns the previous one; BAD_VALUE.");
        SpriteAtlas a = new SpriteAtlas();
        Doc.due("at first", a.setMatching(SpriteAtlas.ANY), SpriteAtlas.EXACT);
        Doc.due("ANY", a.setMatching(SpriteAtlas.NEVER), SpriteAtlas.ANY);
        Doc.due("NEVER", a.setMatching(SpriteAtlas.TURNED), SpriteAtlas.NEVER);
        Doc.due("none", a.setMatching(-1), BAD);
        Doc.due("none", a.setMatching(4), BAD);
        Doc.due("TURNED", a.setMatching(SpriteAtlas.EXACT), SpriteAtlas.TURNED);
    }

    private static void rotation() {
        onAndOff("26", "Returns 1 if it was on, 0 if not.", 0, (a, on) -> a.setRotation(on));
        Doc.says("26", "- `on`: whether rotation is on from now on");
        SpriteAtlas a = Check.with("12345;");
        a.setPageSize(4, 5);
        Doc.due("off", a.insert(0), FULL);
        a.setRotation(true);
        Doc.due("on", a.insert(0), 0);
        a.setRotation(false);
        Doc.due("off again", a.pack(), 1);
        Doc.due("copies do not depend on it", Check.with("12;1/2;").originalOf(1), NONE);
    }

    private static void grouped() {
        onAndOff("27", "Returns 1 if it was, 0 if not.", 0, (a, on) -> a.setGrouped(on));
        Doc.says("27", "- `on`: whether the atlas is grouped from now on (at first it is not)");
        SpriteAtlas a = Check.with("1;2;");
        a.setGroup(1, 3);
        a.pack();
        Doc.due("off at first", Check.places(a), "0:0,0 0:1,0");
        a.setGrouped(true);
        a.pack();
        Doc.due("on", Check.places(a), "0:0,0 1:0,0");
        a.setGrouped(false);
        a.pack();
        Doc.due("off", Check.places(a), "0:0,0 0:1,0");
    }

    private static void order() {
        range("28", "- `order`: the new order, BY_NUMBER to BY_HEIGHT", new int[] {SpriteAtlas.BY_NUMBER,
            SpriteAtlas.BY_HEIGHT}, (x, n) -> x.setOrder(n));
        Doc.says("28", "Returns the previous one; BAD_VALUE.");
        SpriteAtlas a = new SpriteAtlas();
        Doc.due("at first", a.setOrder(SpriteAtlas.BY_HEIGHT), SpriteAtlas.BY_NUMBER);
        Doc.due("BY_HEIGHT", a.setOrder(SpriteAtlas.BY_AREA), SpriteAtlas.BY_HEIGHT);
        Doc.due("BY_AREA", a.setOrder(SpriteAtlas.BY_SIDE), SpriteAtlas.BY_AREA);
        Doc.due("none", a.setOrder(4), BAD);
        Doc.due("BY_SIDE", a.setOrder(SpriteAtlas.BY_NUMBER), SpriteAtlas.BY_SIDE);
    }

    private static void way() {
        range("29", "- `way`: the new way of choosing a free rectangle, SHORT_SIDE to TOP_LEFT", new int[] {
            SpriteAtlas.SHORT_SIDE, SpriteAtlas.TOP_LEFT}, (x, n) -> x.setWay(n));
        Doc.says("29", "Returns the previous one; BAD_VALUE.");
        SpriteAtlas a = new SpriteAtlas();
        Doc.due("at first", a.setWay(SpriteAtlas.TOP_LEFT), SpriteAtlas.SHORT_SIDE);
        Doc.due("TOP_LEFT", a.setWay(SpriteAtlas.LONG_SIDE), SpriteAtlas.TOP_LEFT);
        Doc.due("LONG_SIDE", a.setWay(SpriteAtlas.AREA), SpriteAtlas.LONG_SIDE);
        Doc.due("none", a.setWay(-1), BAD);
        Doc.due("AREA", a.setWay(SpriteAtlas.SHORT_SIDE), SpriteAtlas.AREA);
    }

    // ---- packing

    private static SpriteAtlas onPages(int wide, int high, String text) {
        SpriteAtlas a = Check.with(text);
        a.setPageSize(wide, high);
        return a;
    }

    private static void pack() {
        Doc.says("30", "Packs.");
        SpriteAtlas a = onPages(4, 4, Check.image(4, 3, 1) + "0;22;" + Check.image(4, 3, 1) + Check.image(3, 4, 3));
        a.insert(4);
        a.pack();
        Doc.due("places", Check.places(a), "0:0,0 - 0:0,3 0:0,0 1:0,0");
        a.pack();
        Doc.due("the same again", Check.places(a), "0:0,0 - 0:0,3 0:0,0 1:0,0");
        Doc.says("30", "Returns the number of originals that are not placed.");
        Doc.due("all are placed, but for a blank one", a.pack(), 0);
        a.setPageLimit(1);
        Doc.due("one page", a.pack(), 1);
        a.setMargins(0, 3, 0);
        Doc.due("no page", a.pack(), 3);
        Doc.due("no sprites", new SpriteAtlas().pack(), 0);
        Doc.due("blank ones alone", Check.with("0;00;").pack(), 0);
        SpriteAtlas b = onPages(4, 4, "1;".repeat(24));
        b.setMatching(SpriteAtlas.NEVER);
        b.setPageLimit(1);
        Doc.due("24 on 16 pixels", b.pack(), 8);
        Doc.due("a full page", b.freeRectangles(0), 0);
        Doc.due("its last pixel", b.spriteAt(0, 3, 3), 15);
        b.setPageLimit(2);
        Doc.due("24 on 32 pixels", b.pack(), 0);
    }

    private static void insert() {
        Doc.says("31", "Places an original that is not placed, without moving others.");
        SpriteAtlas a = onPages(4, 4, "1;22;" + Check.image(2, 2, 3) + "4;");
        a.pack();
        String packed = Check.places(a);
        Doc.due("places", packed, "0:0,0 0:1,0 0:0,1 0:3,0");
        a.unplace(1);
        Doc.due("insert(1)", a.insert(1), 0);
        Doc.due("where it was", Check.places(a), packed);
        a.unplace(0);
        a.unplace(2);
        a.unplace(3);
        a.insert(3);
        Doc.due("another order", Check.places(a), "- 0:1,0 - 0:0,0");
        a.insert(0);
        a.insert(2);
        Doc.due("another order", Check.places(a), "0:3,0 0:1,0 0:0,1 0:0,0");
        Doc.due("all are placed", a.unplaced(), 0);
        Arguments.sprite("31", (x, n) -> x.insert(n));
    }

    private static void insertErrors() {
        Doc.says("31", "Returns its page; BAD_VALUE; NOT_POSSIBLE if it is blank, a copy, or placed already; FULL if it"
                + " does not fit.");
        SpriteAtlas a = onPages(4, 4, Check.image(4, 4, 1) + "0;" + Check.image(4, 4, 1) + Check.image(4, 4, 2)
                + Check.image(4, 4, 3) + Check.image(5, 4, 4));
        Doc.due("on a new page", a.insert(4), 0);
        Doc.due("on another new page", a.insert(0), 1);
        Doc.due("on none", a.insert(3), FULL);
        Doc.due("blank", a.insert(1), NOT_POSSIBLE);
        Doc.due("a copy of one that is placed", a.insert(2), NOT_POSSIBLE);
        Doc.due("placed already", a.insert(0), NOT_POSSIBLE);
        Doc.due("too wide", a.insert(5), FULL);
        Doc.due("no such sprite", a.insert(6), BAD);
        Doc.due("nothing has changed", Check.places(a), "1:0,0 - 1:0,0 - 0:0,0 -");
        a.unplace(4);
        Doc.due("too wide for an empty page", a.insert(5), FULL);
        Doc.due("on the empty page", a.insert(3), 0);
        a.unplace(0);
        Doc.due("a copy of one that is not placed", a.insert(2), NOT_POSSIBLE);
        a.setPageLimit(4);
        a.pack();
        Doc.due("too wide for a new page", a.insert(5), FULL);
        Doc.due("no page was added", a.pages(), 3);
        a.setTrimming(false);
        Doc.due("what is blank with trimming alone", a.insert(1), 0);
    }

    private static void unplace() {
        Doc.says("32", "Removes an original from its page.");
        SpriteAtlas a = onPages(4, 4, "11;22;11;3;");
        a.pack();
        a.unplace(0);
        Doc.due("it and its copy are not placed, others stay", Check.places(a), "- 0:2,0 - 0:0,1");
        Doc.due("its pixels", Check.pixels(a, 0, 4, 2), "0022/3000");
        Doc.due("its place is free", Check.free(a, 0), "0,0 2x1; 1,0 1x4; 1,1 3x3; 0,2 4x2");
        Doc.due("another is in its place", a.insert(0), 0);
        a.unplace(0);
        a.unplace(1);
        a.unplace(3);
        Doc.due("the page stays", a.pages(), 1);
        Arguments.sprite("32", (x, n) -> x.unplace(n));
    }

    private static void unplaceErrors() {
        Doc.says("32", "Returns the page; BAD_VALUE; NOT_POSSIBLE if it is blank, a copy, or not placed.");
        SpriteAtlas a = onPages(4, 4, Check.image(4, 4, 1) + "0;" + Check.image(4, 4, 1) + Check.image(4, 4, 2)
                + Check.image(4, 4, 3));
        Doc.due("before packing", a.unplace(0), NOT_POSSIBLE);
        a.pack();
        Doc.due("blank", a.unplace(1), NOT_POSSIBLE);
        Doc.due("a copy of one that is placed", a.unplace(2), NOT_POSSIBLE);
        Doc.due("without room", a.unplace(4), NOT_POSSIBLE);
        Doc.due("no such sprite", a.unplace(5), BAD);
        Doc.due("nothing has changed", Check.places(a), "0:0,0 - 0:0,0 1:0,0 -");
        Doc.due("on page 1", a.unplace(3), 1);
        Doc.due("not placed any more", a.unplace(3), NOT_POSSIBLE);
        Doc.due("on page 0", a.unplace(0), 0);
        Doc.due("not placed any more", a.unplace(0), NOT_POSSIBLE);
        Doc.due("a copy of one that is not placed", a.unplace(2), NOT_POSSIBLE);
    }

    // ---- undo

    private static void undo() {
        Doc.says("33", "Restores the latest state of the history: sprites, groups, settings and the atlas become as"
                + " before the change.");
        SpriteAtlas a = onPages(4, 4, "12;0;3;");
        a.setGroup(2, 1);
        a.setGrouped(true);
        a.pack();
        a.unplace(0);
        long sum = a.checksum();
        a.drop(0);
        a.undo();
        Doc.due("drop() undone", a.checksum(), sum);
        a.setPixel(2, 0, 0, 9);
        a.undo();
        Doc.due("setPixel() undone", a.checksum(), sum);
        a.setGroup(2, 3);
        a.undo();
        Doc.due("setGroup() undone", a.checksum(), sum);
        Check.read(a, "12;7;");
        a.undo();
        Doc.due("read() undone", a.checksum(), sum);
        a.draw(5, 8);
        a.undo();
        Doc.due("draw() undone", a.checksum(), sum);
        a.pack();
        a.undo();
        Doc.due("pack() undone", a.checksum(), sum);
        a.insert(0);
        a.undo();
        Doc.due("insert() undone", a.checksum(), sum);
        a.unplace(2);
        Doc.due("free before undo()", Check.free(a, 1), "0,0 4x4");
        a.undo();
        Doc.due("unplace() undone", a.checksum(), sum);
        Doc.due("free then", Check.free(a, 0) + " and " + Check.free(a, 1), "0,0 4x4 and 1,0 3x4; 0,1 4x3");
        a.setGroup(2, 0);
        a.unplace(2);
        a.setGroup(0, 1);
        a.insert(0);
        a.undo();
        a.undo();
        a.undo();
        Doc.due("the group of a page is as before", a.insert(0), 0);
    }

    private static void undoOfSettings() {
        Doc.says("33", "settings and the atlas become as before the change.");
        SpriteAtlas a = onPages(5, 6, "1;");
        a.setPageLimit(3);
        a.setMargins(1, 1, 1);
        a.setTrimming(false);
        a.setMatching(SpriteAtlas.TURNED);
        a.setRotation(true);
        a.setGrouped(true);
        a.setOrder(SpriteAtlas.BY_SIDE);
        a.setWay(SpriteAtlas.AREA);
        a.pack();
        String places = Check.places(a);
        for (int round = 0; round < 2; round++) {
            Doc.due("setPageSize", a.setPageSize(9, 9), 506);
            a.undo();
            Doc.due("setPageLimit", a.setPageLimit(1), 3);
            a.undo();
            Doc.due("setMargins", a.setMargins(0, 0, 0), 111);
            a.undo();
            Doc.due("setTrimming", a.setTrimming(true), 0);
            a.undo();
            Doc.due("setMatching", a.setMatching(SpriteAtlas.ANY), SpriteAtlas.TURNED);
            a.undo();
            Doc.due("setRotation", a.setRotation(false), 1);
            a.undo();
            Doc.due("setGrouped", a.setGrouped(false), 1);
            a.undo();
            Doc.due("setOrder", a.setOrder(SpriteAtlas.BY_AREA), SpriteAtlas.BY_SIDE);
            a.undo();
            Doc.due("setWay", a.setWay(SpriteAtlas.LONG_SIDE), SpriteAtlas.AREA);
            a.undo();
            Doc.due("places", Check.places(a), places);
        }
    }

    private static void undoneStates() {
        Doc.says("33", "The state is removed from the history.");
        SpriteAtlas a = new SpriteAtlas();
        a.setOrder(1);
        a.setOrder(2);
        a.undo();
        a.undo();
        Doc.due("two states were there", a.undo(), NOT_POSSIBLE);
        Doc.due("the first order", a.setOrder(3), 0);
        Doc.due("another change", a.undo(), 0);
        Doc.says("33", "Returns the number of states that are left in the history; NOT_POSSIBLE if it is empty.");
        SpriteAtlas b = new SpriteAtlas();
        Doc.due("empty", b.undo(), NOT_POSSIBLE);
        for (int changes = 1; changes <= 8; changes++) {
            b.setWay(changes % 4);
            b.setWay(changes % 4);
            Doc.due("after " + (changes + 1) + " changes", b.undo(), Math.min(changes, 4));
        }
        for (int left = 3; left >= 0; left--) {
            Doc.due("undo()", b.undo(), left);
        }
        Doc.due("empty", b.undo(), NOT_POSSIBLE);
        b.draw(1, 1);
        b.keep(0);
        b.restore(0);
        Doc.due("empty after restore()", b.undo(), NOT_POSSIBLE);
    }

    // ---- places

    /** A blank sprite, one on each of two pages, one without room, and a copy of each of these three. */
    private static SpriteAtlas twoPages() {
        SpriteAtlas a = onPages(8, 8, "0;" + Check.image(3, 3, 1) + Check.image(4, 4, 2) + Check.image(4, 5, 3)
                + Check.image(3, 3, 1) + Check.image(4, 4, 2) + Check.image(4, 5, 3));
        a.setMargins(1, 1, 1);
        a.pack();
        return a;
    }

    private static void pageOf() {
        Arguments.sprite("34", (x, n) -> x.pageOf(n));
        Doc.says("34", "Returns its page; BAD_VALUE; NONE if it is not placed.");
        SpriteAtlas a = twoPages();
        Doc.due("blank", a.pageOf(0), NONE);
        Doc.due("on page 0", a.pageOf(1), 0);
        Doc.due("on page 1", a.pageOf(2), 1);
        Doc.due("without room", a.pageOf(3), NONE);
        Doc.due("a copy of one on page 0", a.pageOf(4), 0);
        Doc.due("a copy of one on page 1", a.pageOf(5), 1);
        Doc.due("a copy of one without room", a.pageOf(6), NONE);
        a.unplace(2);
        Doc.due("removed", a.pageOf(2), NONE);
        Doc.due("a copy of one that is removed", a.pageOf(5), NONE);
        a.setWay(0);
        Doc.due("in an empty atlas", a.pageOf(1), NONE);
    }

    private static void xOf() {
        Arguments.sprite("35", (x, n) -> x.xOf(n));
        Doc.says("35", "Returns the column on the page of the upper left pixel of its placed image; BAD_VALUE; NONE if it"
                + " is not placed.");
        SpriteAtlas a = twoPages();
        Doc.due("blank", a.xOf(0), NONE);
        Doc.due("border and extrusion", a.xOf(1), 2);
        Doc.due("without room", a.xOf(3), NONE);
        Doc.due("a copy", a.xOf(4), 2);
        Doc.due("a copy of one without room", a.xOf(6), NONE);
        SpriteAtlas b = onPages(32, 4, "1;00022/00022;333;");
        b.setWay(SpriteAtlas.TOP_LEFT);
        b.pack();
        Doc.due("of the trimmed image", b.xOf(0) + " " + b.xOf(1) + " " + b.xOf(2), "0 1 3");
        b.unplace(1);
        Doc.due("removed", b.xOf(1), NONE);
        b.setTrimming(false);
        b.pack();
        Doc.due("of the whole image, if trimming is off", b.xOf(0) + " " + b.xOf(1) + " " + b.xOf(2), "0 1 6");
    }

    private static void yOf() {
        Arguments.sprite("36", (x, n) -> x.yOf(n));
        Doc.says("36", "Returns the row on the page of the upper left pixel of its placed image; BAD_VALUE; NONE if it is"
                + " not placed.");
        SpriteAtlas a = twoPages();
        Doc.due("blank", a.yOf(0), NONE);
        Doc.due("border and extrusion", a.yOf(2), 2);
        Doc.due("without room", a.yOf(3), NONE);
        Doc.due("a copy", a.yOf(5), 2);
        Doc.due("a copy of one without room", a.yOf(6), NONE);
        SpriteAtlas b = onPages(4, 32, Check.image(4, 1, 1) + "0000/0000/2222/2222;" + Check.image(4, 3, 3));
        b.pack();
        Doc.due("of the trimmed image", b.yOf(0) + " " + b.yOf(1) + " " + b.yOf(2), "0 1 3");
        b.unplace(1);
        Doc.due("removed", b.yOf(1), NONE);
        Doc.due("the others stay", b.yOf(2), 3);
    }

    private static void isTurned() {
        Arguments.sprite("37", (x, n) -> x.isTurned(n));
        Doc.says("37", "Returns 1 if it, or its original, is placed turned, 0 if upright; BAD_VALUE; NONE if it is not"
                + " placed.");
        SpriteAtlas a = onPages(4, 6, "12345;1/2/3/4/5;12345;0;" + Check.image(5, 5, 7) + Check.image(5, 5, 7) + "9;");
        a.setRotation(true);
        a.pack();
        Doc.due("turned", a.isTurned(0), 1);
        Doc.due("upright", a.isTurned(1), 0);
        Doc.due("a copy of a turned one", a.isTurned(2), 1);
        Doc.due("blank", a.isTurned(3), NONE);
        Doc.due("without room", a.isTurned(4), NONE);
        Doc.due("a copy of one without room", a.isTurned(5), NONE);
        Doc.due("a square", a.isTurned(6), 0);
        a.setMatching(SpriteAtlas.TURNED);
        a.pack();
        Doc.due("a copy, itself as it is placed", a.originalOf(1) + " " + a.isTurned(1), "0 1");
        a.unplace(0);
        Doc.due("removed", a.isTurned(0) + " " + a.isTurned(1), "-4 -4");
        a.setPageSize(6, 4);
        a.pack();
        Doc.due("upright on a wide page", a.isTurned(0) + " " + a.isTurned(1), "0 0");
    }

    private static void recordOf() {
        Arguments.sprite("38", (x, n) -> x.recordOf(n));
        Doc.says("38", "Returns its record; BAD_VALUE; NONE if it is not placed.");
        SpriteAtlas a = onPages(4, 6, "12345;1/2/3/4/5;54321;0;" + Check.image(5, 5, 7) + "5/4/3/2/1;12;");
        a.setRotation(true);
        Doc.due("not placed yet", a.recordOf(0), NONE);
        a.pack();
        Doc.due("turned", a.recordOf(0), 3);
        Doc.due("upright", a.recordOf(1), 0);
        Doc.due("blank", a.recordOf(3), NONE);
        Doc.due("without room", a.recordOf(4), NONE);
        a.setMatching(SpriteAtlas.TURNED);
        a.pack();
        Doc.due("records", "" + a.recordOf(0) + a.recordOf(1) + a.recordOf(2) + a.recordOf(5), "3012");
        a.setRotation(false);
        a.setPageSize(6, 6);
        a.pack();
        Doc.due("upright records", "" + a.recordOf(0) + a.recordOf(1) + a.recordOf(2) + a.recordOf(5), "0123");
        a.unplace(0);
        Doc.due("removed", a.recordOf(0) + " " + a.recordOf(1), "-4 -4");
    }
}
