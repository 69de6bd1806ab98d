/** Promises 1 to 14: the text, the sprites and their groups. */
public final class SpritesTest {
    private static final int BAD = SpriteAtlas.BAD_VALUE, FULL = SpriteAtlas.FULL, NONE = SpriteAtlas.NONE;
    private static final int NOT_POSSIBLE = SpriteAtlas.NOT_POSSIBLE;

    public static void main(String[] args) {
        newObject();
        append();
        clearText();
        faultPosition();
        read();
        draw();
        spritesAndSizes();
        color();
        setPixel();
        drop();
        groups();
        Check.finish();
    }

    private static void newObject() {
        SpriteAtlas a = new SpriteAtlas();
        Check.due("1: sprites()", a.sprites(), 0);
        Check.due("1: pages()", a.pages(), 0);
        Check.due("1: clearText()", a.clearText(), 0);
        Check.due("1: printed(0)", a.printed(0), NONE);
        Check.due("1: restore(0)", a.restore(0), NOT_POSSIBLE);
        Check.due("1: restore(1)", a.restore(1), NOT_POSSIBLE);
        Check.due("1: undo()", a.undo(), NOT_POSSIBLE);
        Check.due("1: checksum()", a.checksum(), (19 * 31 + 0) * 31 + 0);
        Check.due("1: page size", a.setPageSize(5, 6), 1616);
        Check.due("1: page limit", a.setPageLimit(1), 2);
        Check.due("1: margins", a.setMargins(1, 1, 1), 0);
        Check.due("1: trimming", a.setTrimming(false), 1);
        Check.due("1: matching", a.setMatching(SpriteAtlas.ANY), SpriteAtlas.EXACT);
        Check.due("1: rotation", a.setRotation(true), 0);
        Check.due("1: grouped", a.setGrouped(true), 0);
        Check.due("1: order", a.setOrder(SpriteAtlas.BY_AREA), SpriteAtlas.BY_NUMBER);
        Check.due("1: way", a.setWay(SpriteAtlas.AREA), SpriteAtlas.SHORT_SIDE);
        Check.due("1: another object is new too", new SpriteAtlas().setPageSize(4, 4), 1616);
    }

    private static void append() {
        SpriteAtlas a = new SpriteAtlas();
        Check.due("2: append(31)", a.append(31), BAD);
        Check.due("2: append(127)", a.append(127), BAD);
        Check.due("2: append(-1)", a.append(-1), BAD);
        Check.due("2: append(32)", a.append(32), 1);
        Check.due("2: append(126)", a.append(126), 2);
        for (int i = 3; i <= 160; i++) {
            Check.due("2: append", a.append('0'), i);
        }
        Check.due("2: a full text", a.append('0'), FULL);
        Check.due("2: the value before the room", a.append(31), BAD);
        Check.due("2: the text is as it was", a.clearText(), 160);
    }

    private static void clearText() {
        SpriteAtlas a = new SpriteAtlas();
        Check.text(a, "12;");
        Check.due("3: clearText()", a.clearText(), 3);
        Check.due("3: clearText() again", a.clearText(), 0);
        Check.due("3: what follows is the first character", a.append('7'), 1);
        Check.due("3: no change", a.undo(), NOT_POSSIBLE);
    }

    private static void fault(String text, int position) {
        SpriteAtlas a = new SpriteAtlas();
        Check.text(a, text);
        Check.due("4: fault of \"" + text + "\"", a.faultPosition(), position);
        Check.holds("5: read of \"" + text + "\"", (a.read() == NOT_POSSIBLE) == (position != NONE));
    }

    private static void faultPosition() {
        fault("", NONE);
        fault("0;", NONE);
        fault("12345678/12345678/12345678/12345678/12345678/12345678/12345678/12345678;", NONE);
        fault("1/2/3/4/5/6/7/8;9;", NONE);
        fault("12;1;", NONE);
        fault("12345678;12/34;1/2/3;", NONE);
        fault("1", 1);
        fault("1/", 2);
        fault("12/34", 5);
        fault("1;2", 3);
        fault(";", 0);
        fault("/", 0);
        fault("1;;", 2);
        fault("1//2;", 2);
        fault("1/;", 2);
        fault("123456789;", 8);
        fault("12/345;", 5);
        fault("12/3;", 4);
        fault("12/3/4;", 4);
        fault("1/2/3/4/5/6/7/8/9;", 15);
        fault("1 2;", 1);
        fault("1,2;", 1);
        fault("1;a", 2);
        fault(" ", 0);
        fault("1:", 1);
        fault("1.", 1);
        fault("123/45;6x", 6);
        SpriteAtlas a = new SpriteAtlas();
        for (int i = 0; i < 160; i++) {
            a.append(i % 2 == 0 ? '1' : ';');
        }
        Check.due("4: a full text without a fault", a.faultPosition(), NONE);
        Check.due("5: 80 images", a.read(), FULL);
        a = new SpriteAtlas();
        for (int i = 0; i < 160; i++) {
            a.append(i % 2 == 0 || i == 159 ? '2' : ';');
        }
        Check.due("4: a full text that ends too early", a.faultPosition(), 160);
        Check.due("5: it can't be read", a.read(), NOT_POSSIBLE);
    }

    private static void read() {
        SpriteAtlas a = new SpriteAtlas();
        Check.due("5: read() of nothing", a.read(), 0);
        Check.due("5: it is a change", a.undo(), 0);
        Check.due("5: two images", Check.read(a, "123/456;7;"), 2);
        Check.due("5: width", a.width(0), 3);
        Check.due("5: height", a.height(0), 2);
        Check.due("5: color", a.color(0, 2, 1), 6);
        Check.due("5: color", a.color(0, 0, 1), 4);
        Check.due("5: second image", a.color(1, 0, 0), 7);
        Check.due("5: group", a.groupOf(0), 0);
        Check.due("5: the text stays", a.read(), 4);
        Check.due("5: its images once more", a.color(3, 0, 0), 7);
        Check.due("5: undo()", a.undo(), 1);
        Check.due("5: sprites()", a.sprites(), 2);
        a.pack();
        Check.due("5: read() leaves the atlas", a.read(), 4);
        Check.due("5: pageOf(0)", a.pageOf(0), 0);
        Check.due("5: a copy of what is placed", a.pageOf(2), 0);
        Check.text(a, "1;2");
        Check.due("5: a fault", a.read(), NOT_POSSIBLE);
        SpriteAtlas b = new SpriteAtlas();
        Check.due("5: 23 sprites", Check.read(b, "1;".repeat(23)), 23);
        Check.due("5: too many", Check.read(b, "1;2;"), FULL);
        Check.due("5: none was added", b.sprites(), 23);
        Check.due("5: 24 sprites", Check.read(b, "2;"), 24);
        Check.due("5: no room", b.read(), FULL);
        Check.due("5: none more", Check.read(b, ""), 24);
        Check.text(b, "1;2;x");
        Check.due("5: the fault before the room", b.read(), NOT_POSSIBLE);
        Check.due("5: errors are no changes", b.undo(), 2);
        Check.due("5: group of one that takes the place of a dropped one", groupAfterDrop(), 0);
    }

    private static int groupAfterDrop() {
        SpriteAtlas a = Check.with("1;2;");
        a.setGroup(1, 3);
        a.drop(1);
        a.read();
        return a.groupOf(1);
    }

    private static void draw() {
        SpriteAtlas a = new SpriteAtlas();
        Check.due("6: start", a.draw(-1, 1), BAD);
        Check.due("6: n = 0", a.draw(1, 0), BAD);
        Check.due("6: n = 9", a.draw(1, 9), BAD);
        Check.due("6: least", a.draw(0, 1), 1);
        Check.due("6: most", a.draw(2147483647, 8), 9);
        long state = 2147483647L;
        for (int s = 1; s <= 8; s++) {
            state = (state * 1103515245L + 12345L) % 2147483648L;
            int wide = (int) (state / 65536 % 5) + 1;
            state = (state * 1103515245L + 12345L) % 2147483648L;
            int high = (int) (state / 65536 % 5) + 1;
            Check.due("6: width", a.width(s), wide);
            Check.due("6: height", a.height(s), high);
            for (int i = 0; i < wide * high; i++) {
                state = (state * 1103515245L + 12345L) % 2147483648L;
                int value = (int) (state / 65536 % 6) - 2;
                Check.due("6: color", a.color(s, i % wide, i / wide), value < 0 ? 0 : value);
            }
        }
        Check.due("6: group", a.groupOf(3), 0);
        Check.due("6: one change a call", a.undo(), 1);
        Check.due("6: undone", a.sprites(), 1);
        a.draw(5, 8);
        a.draw(5, 8);
        a.pack();
        Check.due("6: 23 sprites", a.draw(5, 6), 23);
        Check.due("6: the atlas stays", a.pages(), 1);
        Check.due("6: too many", a.draw(5, 2), FULL);
        Check.due("6: the value before the room", a.draw(5, 9), BAD);
        Check.due("6: 24 sprites", a.draw(5, 1), 24);
    }

    private static void spritesAndSizes() {
        SpriteAtlas a = Check.with("12345678/12345678;1/2/3;");
        Check.due("7: sprites()", a.sprites(), 2);
        Check.due("8: width(0)", a.width(0), 8);
        Check.due("8: width(1)", a.width(1), 1);
        Check.due("8: width(2)", a.width(2), BAD);
        Check.due("8: width(-1)", a.width(-1), BAD);
        Check.due("8: width(24)", a.width(24), BAD);
        Check.due("8: width(2147483647)", a.width(2147483647), BAD);
        Check.due("9: height(0)", a.height(0), 2);
        Check.due("9: height(1)", a.height(1), 3);
        Check.due("9: height(2)", a.height(2), BAD);
        Check.due("9: height(-2147483648)", a.height(-2147483648), BAD);
        a.drop(0);
        Check.due("7: after drop(0)", a.sprites(), 1);
        Check.due("8: the sizes of images, not of what is trimmed", Check.with("0000/0100;").width(0), 4);
    }

    private static void color() {
        SpriteAtlas a = Check.with("01234567/89012345;");
        for (int i = 0; i < 16; i++) {
            Check.due("10: color", a.color(0, i % 8, i / 8), i % 10);
        }
        Check.due("10: x = 8", a.color(0, 8, 0), BAD);
        Check.due("10: x = -1", a.color(0, -1, 0), BAD);
        Check.due("10: y = 2", a.color(0, 0, 2), BAD);
        Check.due("10: y = -1", a.color(0, 0, -1), BAD);
        Check.due("10: no such sprite", a.color(1, 0, 0), BAD);
        Check.due("10: no such sprite", a.color(-1, 0, 0), BAD);
    }

    private static void setPixel() {
        SpriteAtlas a = Check.with("88888888/99999999;12;");
        a.pack();
        Check.due("11: setPixel", a.setPixel(0, 7, 1, 0), 9);
        Check.due("11: color", a.color(0, 7, 1), 0);
        Check.due("11: its neighbour", a.color(0, 6, 1), 9);
        Check.due("11: the row above", a.color(0, 7, 0), 8);
        Check.due("11: the atlas is empty", a.pages(), 0);
        Check.due("11: pageOf(0)", a.pageOf(0), NONE);
        Check.due("11: back", a.setPixel(0, 7, 1, 9), 0);
        Check.due("11: color", a.color(0, 7, 1), 9);
        a.pack();
        Check.due("11: color -1", a.setPixel(1, 0, 0, -1), BAD);
        Check.due("11: color 10", a.setPixel(1, 0, 0, 10), BAD);
        Check.due("11: x = 2", a.setPixel(1, 2, 0, 1), BAD);
        Check.due("11: x = -1", a.setPixel(1, -1, 0, 1), BAD);
        Check.due("11: y = 1", a.setPixel(1, 0, 1, 1), BAD);
        Check.due("11: y = -1", a.setPixel(1, 0, -1, 1), BAD);
        Check.due("11: no such sprite", a.setPixel(2, 0, 0, 1), BAD);
        Check.due("11: errors leave the atlas", a.pages(), 1);
        Check.due("11: the same color", a.setPixel(1, 0, 0, 1), 1);
        Check.due("11: empties the atlas too", a.pages(), 0);
        Check.due("11: and is a change", a.undo(), 4);
        Check.due("11: which undo() takes back", a.pages(), 1);
    }

    private static void drop() {
        SpriteAtlas a = Check.with("1;22;333/333;");
        a.setGroup(2, 3);
        a.setGroup(1, 2);
        a.pack();
        Check.due("12: drop(3)", a.drop(3), BAD);
        Check.due("12: drop(-1)", a.drop(-1), BAD);
        Check.due("12: errors leave the atlas", a.pages(), 1);
        Check.due("12: drop(1)", a.drop(1), 2);
        Check.due("12: the atlas is empty", a.pages(), 0);
        Check.due("12: width of the next one", a.width(1), 3);
        Check.due("12: height of the next one", a.height(1), 2);
        Check.due("12: color of the next one", a.color(1, 2, 1), 3);
        Check.due("12: group of the next one", a.groupOf(1), 3);
        Check.due("12: the one before", a.color(0, 0, 0), 1);
        Check.due("12: the last one", a.drop(1), 1);
        Check.due("12: the only one", a.drop(0), 0);
        Check.due("12: none is left", a.drop(0), BAD);
        a.undo();
        a.undo();
        a.undo();
        Check.due("12: undone", a.width(1), 2);
        Check.due("12: and the places", a.pageOf(2), 0);
        SpriteAtlas b = Check.with("1;".repeat(23) + "2;");
        Check.due("12: of 24", b.drop(0), 23);
        Check.due("12: the last of 24", b.color(22, 0, 0), 2);
    }

    private static void groups() {
        SpriteAtlas a = Check.with("1;2;");
        a.pack();
        Check.due("14: at first", a.groupOf(1), 0);
        Check.due("13: setGroup(1, 3)", a.setGroup(1, 3), 0);
        Check.due("13: setGroup(1, 1)", a.setGroup(1, 1), 3);
        Check.due("14: groupOf(1)", a.groupOf(1), 1);
        Check.due("14: groupOf(0)", a.groupOf(0), 0);
        Check.due("13: the atlas stays", a.pageOf(1), 0);
        Check.due("13: group 4", a.setGroup(1, 4), BAD);
        Check.due("13: group -1", a.setGroup(1, -1), BAD);
        Check.due("13: no such sprite", a.setGroup(2, 0), BAD);
        Check.due("13: no such sprite", a.setGroup(-1, 0), BAD);
        Check.due("14: no such sprite", a.groupOf(2), BAD);
        Check.due("14: no such sprite", a.groupOf(-1), BAD);
        Check.due("13: two changes", a.undo(), 3);
        Check.due("13: undone", a.groupOf(1), 3);
    }
}
