/** Promises 30 to 33: pack, insert, unplace, undo. */
public final class PackingTest {
    private static final int BAD = SpriteAtlas.BAD_VALUE, FULL = SpriteAtlas.FULL;
    private static final int NOT_POSSIBLE = SpriteAtlas.NOT_POSSIBLE;

    public static void main(String[] args) {
        packNothing();
        orders();
        ways();
        rotation();
        pagesInTurn();
        grouped();
        groupOfAPage();
        margins();
        noField();
        insert();
        insertOnPages();
        unplace();
        undo();
        undoOfPlaces();
        historyOfFive();
        Check.finish();
    }

    private static void packNothing() {
        SpriteAtlas a = new SpriteAtlas();
        Check.due("30: without sprites", a.pack(), 0);
        Check.due("30: no page", a.pages(), 0);
        Check.due("30: a change", a.undo(), 0);
        Check.read(a, "0;00/00;");
        Check.due("30: blank ones alone", a.pack(), 0);
        Check.due("30: no page", a.pages(), 0);
        Check.read(a, "1;1;");
        a.pack();
        Check.due("30: copies take no place", a.usedWidth(0), 1);
        Check.due("30: packing anew", a.pack(), 0);
        Check.due("30: begins with an empty atlas", Check.places(a), "- - 0:0,0 0:0,0");
    }

    /** On a wide page TOP_LEFT puts all sprites into the uppermost row, from left to right. */
    private static void orders() {
        SpriteAtlas a = Check.with("1;22/22;333;4/4/4;55;666/666;777;");
        a.setWay(SpriteAtlas.TOP_LEFT);
        a.setPageSize(32, 4);
        Check.due("30: pack()", a.pack(), 0);
        Check.due("30: places", Check.places(a), "0:0,0 0:1,0 0:3,0 0:6,0 0:7,0 0:9,0 0:12,0");
        Check.due("30: BY_NUMBER", fromLeft(a), "0 1 2 3 4 5 6 ");
        a.setOrder(SpriteAtlas.BY_AREA);
        a.pack();
        Check.due("30: BY_AREA", fromLeft(a), "5 1 2 3 6 4 0 ");
        a.setOrder(SpriteAtlas.BY_SIDE);
        a.pack();
        Check.due("30: BY_SIDE", fromLeft(a), "5 2 3 6 1 4 0 ");
        a.setOrder(SpriteAtlas.BY_HEIGHT);
        a.pack();
        Check.due("30: BY_HEIGHT", fromLeft(a), "3 5 1 2 6 4 0 ");
        SpriteAtlas b = Check.with("11111111;222/222/222;");
        b.setPageSize(32, 4);
        b.setWay(SpriteAtlas.TOP_LEFT);
        b.setOrder(SpriteAtlas.BY_AREA);
        b.pack();
        Check.due("30: the area, not the length, BY_AREA", fromLeft(b), "1 0 ");
        b.setOrder(SpriteAtlas.BY_SIDE);
        b.pack();
        Check.due("30: the length, not the area, BY_SIDE", fromLeft(b), "0 1 ");
        a.setTrimming(false);
        a.setOrder(SpriteAtlas.BY_AREA);
        Check.read(a, "00000000/08000000;");
        a.pack();
        Check.due("30: the areas of trimmed images", a.xOf(7), 0);
        a.setTrimming(true);
        a.pack();
        Check.due("30: the areas of trimmed images", a.xOf(7), 14 + 1);
    }

    private static String fromLeft(SpriteAtlas a) {
        int[] starting = new int[32];
        for (int sprite = 0, n = a.sprites(); sprite < n; sprite++) {
            int x = a.xOf(sprite);
            if (x >= 0) {
                starting[x] = sprite + 1;
            }
        }
        StringBuilder order = new StringBuilder();
        for (int x = 0; x < 32; x++) {
            order.append(starting[x] > 0 ? starting[x] - 1 + " " : "");
        }
        return order.toString();
    }

    /** Where the second image comes by each of the four ways; the first one lies at 0,0. */
    private static void twoImages(int pageW, int pageH, String first, String second, boolean rotation, String... want) {
        SpriteAtlas a = Check.with(first + second);
        a.setPageSize(pageW, pageH);
        a.setRotation(rotation);
        for (int way = 0; way < 4; way++) {
            a.setWay(way);
            a.pack();
            Check.due("30: way " + way + " on " + pageW + "x" + pageH, Check.places(a), "0:0,0 " + want[way]);
        }
    }

    private static void ways() {
        String right = "0:8,0", below = "0:0,8";
        twoImages(16, 16, Check.image(8, 4, 1), Check.image(7, 3, 2), false, right, "0:0,4", right, right);
        twoImages(16, 16, Check.image(4, 8, 1), Check.image(8, 3, 2), false, "0:4,0", below, below, "0:4,0");
        // By AREA the second value decides.
        twoImages(16, 16, Check.image(8, 8, 1), Check.image(3, 7, 2), false, below, right, below, right);
        // By SHORT_SIDE the second value decides.
        twoImages(12, 16, Check.image(4, 8, 1), Check.image(5, 5, 2), false, below, below, below, "0:4,0");
        // By LONG_SIDE the second value decides.
        twoImages(16, 16, Check.image(4, 8, 1), Check.image(5, 5, 2), false, below, below, below, "0:4,0");
        // Both values are equal by the first three ways.
        twoImages(16, 16, Check.image(8, 8, 1), Check.image(5, 5, 2), false, right, right, right, right);
    }

    private static void rotation() {
        String right = "0:8,0", rightTurned = "0:8,0t";
        twoImages(16, 16, Check.image(8, 8, 1), Check.image(3, 7, 2), true, rightTurned, right, rightTurned,
                rightTurned);
        twoImages(16, 16, Check.image(8, 8, 1), Check.image(5, 5, 2), true, right, right, right, right);
        // By AREA the second value decides between upright and turned too.
        twoImages(16, 16, Check.image(8, 8, 1), Check.image(7, 3, 2), true, right, rightTurned, right, right);
        twoImages(16, 16, Check.image(8, 8, 1), Check.image(8, 7, 2), true, right, rightTurned, right, right);
        SpriteAtlas a = Check.with(Check.image(7, 3, 1));
        a.setRotation(true);
        Check.due("30: pack()", a.pack(), 0);
        Check.due("30: of two that are equal the upright one", a.isTurned(0), 0);
        a.setPageSize(8, 16);
        a.pack();
        Check.due("30: upright by SHORT_SIDE", a.isTurned(0), 0);
        a.setWay(SpriteAtlas.LONG_SIDE);
        a.pack();
        Check.due("30: turned by LONG_SIDE", a.isTurned(0), 1);
        a.setWay(SpriteAtlas.AREA);
        a.pack();
        Check.due("30: upright by AREA", a.isTurned(0), 0);
        a.setWay(SpriteAtlas.TOP_LEFT);
        a.pack();
        Check.due("30: upright by TOP_LEFT", a.isTurned(0), 0);
        a.setPageSize(16, 8);
        a.setWay(SpriteAtlas.AREA);
        a.pack();
        Check.due("30: turned by AREA", a.isTurned(0), 1);
        SpriteAtlas b = Check.with(Check.image(8, 4, 1) + Check.image(4, 8, 2));
        b.setPageSize(8, 8);
        b.setRotation(true);
        b.pack();
        Check.due("30: turned on the first page rather than upright on another", Check.places(b), "0:0,0 0:0,4t");
        b.setRotation(false);
        b.pack();
        Check.due("30: upright only", Check.places(b), "0:0,0 1:0,0");
    }

    private static void pagesInTurn() {
        SpriteAtlas a = Check.with(Check.image(4, 3, 1) + Check.image(4, 4, 2) + Check.image(4, 1, 3)
                + Check.image(4, 4, 4) + Check.image(2, 1, 5));
        a.setPageSize(4, 4);
        Check.due("30: one is left over for each full page", a.pack(), 2);
        Check.due("30: places", Check.places(a), "0:0,0 1:0,0 0:0,3 - -");
        a.setPageLimit(4);
        Check.due("30: with four pages", a.pack(), 0);
        Check.due("30: places", Check.places(a), "0:0,0 1:0,0 0:0,3 2:0,0 3:0,0");
        Check.read(a, Check.image(5, 1, 6));
        Check.due("30: too wide for any page", a.pack(), 1);
        Check.due("30: no page is added for it", a.pages(), 4);
        a.setPageLimit(1);
        Check.due("30: with one page", a.pack(), 4);
    }

    private static void grouped() {
        SpriteAtlas a = Check.with("1;2;3;4;5;");
        a.setGroup(1, 2);
        a.setGroup(3, 2);
        a.setGroup(4, 1);
        a.pack();
        Check.due("27: not grouped", Check.places(a), "0:0,0 0:1,0 0:2,0 0:3,0 0:4,0");
        a.setGrouped(true);
        Check.due("27: a third group has no page", a.pack(), 1);
        Check.due("27: grouped", Check.places(a), "0:0,0 1:0,0 0:1,0 1:1,0 -");
        a.setPageLimit(3);
        Check.due("27: three groups", a.pack(), 0);
        Check.due("27: grouped", Check.places(a), "0:0,0 1:0,0 0:1,0 1:1,0 2:0,0");
    }

    private static void groupOfAPage() {
        SpriteAtlas a = Check.with("1;2;3;");
        a.setGrouped(true);
        a.setPageLimit(1);
        a.pack();
        a.setGroup(0, 1);
        Check.due("31: the rest of group 0", a.unplace(1), 0);
        Check.due("31: comes to the page still", a.insert(1), 0);
        a.unplace(0);
        Check.due("31: its first original, of another group now, doesn't", a.insert(0), FULL);
        a.setGroup(1, 1);
        a.setGroup(2, 1);
        Check.due("31: whatever the groups of the others are now", a.insert(0), FULL);
        a.unplace(1);
        Check.due("31: one original still holds the group", a.insert(0), FULL);
        a.unplace(2);
        Check.due("31: an empty page is of any group", a.insert(0), 0);
        Check.due("31: and then of that of the first one", a.insert(1), 0);
        a.setGroup(2, 0);
        Check.due("31: and of no other", a.insert(2), FULL);
        a.undo();
        a.undo();
        a.undo();
        a.undo();
        Check.due("33: the groups of pages come back", a.insert(0), FULL);
    }

    private static void margins() {
        SpriteAtlas a = Check.with("12;3;");
        a.setPageSize(8, 7);
        a.setMargins(1, 2, 0);
        Check.due("23: padding and border", a.pack(), 0);
        Check.due("23: the padding may reach into the border", Check.places(a), "0:2,2 0:5,2");
        a.setMargins(1, 2, 1);
        a.pack();
        Check.due("23: with extrusion", Check.places(a), "0:3,3 1:3,3");
        a.setMargins(0, 0, 2);
        a.pack();
        Check.due("23: extrusion alone", Check.places(a), "0:2,2 1:2,2");
        Check.due("44: what is left", Check.free(a, 0), "6,0 2x7; 0,5 8x2");
        a.setMargins(2, 0, 0);
        a.pack();
        Check.due("23: padding alone", Check.places(a), "0:0,0 0:4,0");
    }

    private static void noField() {
        SpriteAtlas a = Check.with("1;22;1;0;");
        a.setPageSize(4, 32);
        a.setMargins(0, 2, 0);
        Check.due("30: a field without columns", a.pack(), 2);
        Check.due("30: no page", a.pages(), 0);
        Check.due("31: no place", a.insert(0), FULL);
        a.setPageSize(32, 4);
        Check.due("30: a field without rows", a.pack(), 2);
        a.setPageSize(4, 4);
        a.setMargins(0, 3, 0);
        Check.due("30: a field of less than nothing", a.pack(), 2);
        Check.due("31: no place", a.insert(1), FULL);
        a.setMargins(2, 3, 0);
        Check.due("30: padding does not help", a.pack(), 2);
        a.setMargins(3, 3, 0);
        Check.due("30: nor if a position is left", a.pack(), 2);
        a.setMargins(1, 1, 0);
        Check.due("30: three by three positions", a.pack(), 0);
        Check.due("30: places", Check.places(a), "0:1,1 1:1,1 0:1,1 -");
    }

    private static void insert() {
        SpriteAtlas a = Check.with("12;0;12;3;44/44;");
        Check.due("31: no such sprite", a.insert(5), BAD);
        Check.due("31: no such sprite", a.insert(-1), BAD);
        Check.due("31: blank", a.insert(1), NOT_POSSIBLE);
        Check.due("31: a copy of one that is not placed", a.insert(2), NOT_POSSIBLE);
        Check.due("31: on a new page", a.insert(3), 0);
        Check.due("31: placed", a.insert(3), NOT_POSSIBLE);
        Check.due("31: one change", a.undo(), 1);
        Check.due("31: the page is gone", a.pages(), 0);
        a.pack();
        Check.due("31: a copy of one that is placed", a.insert(2), NOT_POSSIBLE);
        String before = Check.places(a);
        a.unplace(0);
        Check.due("31: again", a.insert(0), 0);
        Check.due("31: no other has moved", Check.places(a), before);
        Check.read(a, Check.image(8, 8, 7) + Check.image(7, 7, 5));
        a.setPageSize(8, 8);
        a.pack();
        long sum = a.checksum();
        Check.due("31: no room", a.insert(6), FULL);
        Check.due("31: nothing has changed", a.checksum(), sum);
        Check.due("31: nor the history", a.undo(), 4);
    }

    private static void insertOnPages() {
        SpriteAtlas a = Check.with(Check.image(4, 4, 1) + Check.image(4, 4, 2) + Check.image(4, 4, 3)
                + Check.image(1, 1, 4));
        a.setPageSize(4, 4);
        a.pack();
        Check.due("31: all pages are full", a.insert(2), FULL);
        a.unplace(0);
        Check.due("31: an empty page stays", a.pages(), 2);
        Check.due("31: on the empty page", a.insert(3), 0);
        Check.due("31: which is not empty now", a.insert(2), FULL);
        a.unplace(1);
        Check.due("31: on the other one", a.insert(2), 1);
        Check.due("31: no page was added", a.pages(), 2);
        a.unplace(2);
        a.unplace(3);
        Check.due("31: the first of two empty pages", a.insert(1), 0);
    }

    private static void unplace() {
        SpriteAtlas a = Check.with("12;0;12;3;" + Check.image(4, 4, 4));
        a.setPageSize(4, 4);
        Check.due("32: not placed yet", a.unplace(0), NOT_POSSIBLE);
        a.pack();
        Check.due("32: no such sprite", a.unplace(5), BAD);
        Check.due("32: no such sprite", a.unplace(-1), BAD);
        Check.due("32: blank", a.unplace(1), NOT_POSSIBLE);
        Check.due("32: a copy", a.unplace(2), NOT_POSSIBLE);
        Check.due("32: on page 1", a.unplace(4), 1);
        Check.due("32: not placed", a.unplace(4), NOT_POSSIBLE);
        Check.due("32: on page 0", a.unplace(0), 0);
        Check.due("32: places", Check.places(a), "- - - 0:2,0 -");
        Check.due("32: its place is free", Check.free(a, 0), "0,0 2x4; 3,0 1x4; 0,1 4x3");
        Check.due("32: both pages stay", a.pages(), 2);
        Check.due("32: the empty one is free", Check.free(a, 1), "0,0 4x4");
        Check.due("33: the latest of five changes", a.undo(), 4);
        Check.due("33: undone", Check.places(a), "0:0,0 - 0:0,0 0:2,0 -");
        Check.due("33: its place is taken", Check.free(a, 0), "3,0 1x4; 0,1 4x3");
    }

    private static void undo() {
        SpriteAtlas a = Check.with("12;345;0;");
        a.setGroup(1, 2);
        a.setRotation(true);
        a.pack();
        long packed = a.checksum();
        a.drop(0);
        a.append(';');
        a.print(0);
        a.keep(0);
        Check.due("33: undo()", a.undo(), 4);
        Check.due("33: as it was", a.checksum(), packed);
        Check.due("33: the text is not", a.clearText(), 10);
        Check.due("33: nor what is printed", Check.printed(a), "0: unplaced");
        Check.due("33: nor the slots", a.restore(0), 2);
        Check.due("33: restore() empties the history", a.undo(), NOT_POSSIBLE);
        a.setTrimming(false);
        a.undo();
        Check.due("33: an undone setting", a.setTrimming(true), 1);
        Check.due("33: the changes after an undo", a.undo(), 0);
        Check.due("33: none is left", a.undo(), NOT_POSSIBLE);
    }

    private static void undoOfPlaces() {
        SpriteAtlas a = Check.with(Check.image(5, 2, 1) + Check.image(4, 5, 2) + Check.image(4, 4, 3)
                + Check.image(4, 5, 4));
        a.setPageSize(4, 5);
        a.setPageLimit(4);
        a.setRotation(true);
        a.pack();
        String packed = "0:0,0t 1:0,0 2:0,0 3:0,0";
        Check.due("30: four pages", Check.places(a), packed);
        long sum = a.checksum();
        a.setPageSize(8, 8);
        a.pack();
        Check.due("30: two pages", Check.places(a), "0:0,0 0:0,2 0:4,2 1:0,0");
        a.unplace(1);
        Check.due("33: unplace() undone", a.undo(), 4);
        Check.due("33: places", Check.places(a), "0:0,0 0:0,2 0:4,2 1:0,0");
        a.undo();
        a.undo();
        Check.due("33: page size and places", Check.places(a), packed);
        Check.due("33: all of it", a.checksum(), sum);
        Check.due("33: the free rectangles of the last page", a.freeRectangles(3), 0);
        Check.due("33: the free rectangles", Check.free(a, 2), "0,4 4x1");
    }

    private static void historyOfFive() {
        SpriteAtlas a = new SpriteAtlas();
        for (int i = 0; i < 12; i++) {
            a.setPageSize(4 + i, 4);
        }
        for (int left = 4; left >= 0; left--) {
            Check.due("33: undo()", a.undo(), left);
        }
        Check.due("33: no more", a.undo(), NOT_POSSIBLE);
        Check.due("33: the oldest were dropped", a.setPageSize(4, 4), 1004);
        Check.due("33: a new one", a.undo(), 0);
        a.pages();
        a.unplaced();
        a.bestMethod();
        a.smallestPage();
        a.print(0);
        a.keep(1);
        a.checksum();
        a.append('1');
        a.clearText();
        Check.due("33: none of these is a change", a.undo(), NOT_POSSIBLE);
        for (int i = 0; i < 3; i++) {
            a.draw(1, 1);
            a.pack();
            a.insert(0);
            a.unplace(0);
            a.setGroup(0, 1);
        }
        Check.due("33: each of these is one", a.undo(), 4);
        Check.due("33: setGroup() undone", a.groupOf(0), 1);
        a.undo();
        Check.due("33: unplace() undone", a.pageOf(0), 0);
    }
}
