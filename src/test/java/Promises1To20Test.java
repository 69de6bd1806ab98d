/** Promises 1 to 20, sentence by sentence: the text, the sprites, what is trimmed, and copies. */
public final class Promises1To20Test {
    private static final int BAD = SpriteAtlas.BAD_VALUE, FULL = SpriteAtlas.FULL, NONE = SpriteAtlas.NONE;
    private static final int NOT_POSSIBLE = SpriteAtlas.NOT_POSSIBLE;
    private static final int LOW = Integer.MIN_VALUE, HIGH = Integer.MAX_VALUE;

    public static void main(String[] args) {
        newObject();
        append();
        clearText();
        faultPosition();
        read();
        readErrors();
        draw();
        drawnNumbers();
        drawArguments();
        sprites();
        sizes();
        color();
        setPixel();
        drop();
        groups();
        trimPlace();
        trimSize();
        originalOf();
        orientationOf();
        Doc.finish(Doc.promises(1, 20));
    }

    private static void newObject() {
        Doc.says("1", "Creates a packer without sprites and pages, with all settings as at first, an empty text buffer,"
                + " nothing printed and empty slots.");
        SpriteAtlas a = new SpriteAtlas();
        Doc.due("sprites()", a.sprites(), 0);
        Doc.due("width(0)", a.width(0), BAD);
        Doc.due("pages()", a.pages(), 0);
        Doc.due("pixel(0, 0, 0)", a.pixel(0, 0, 0), BAD);
        Doc.due("append('1')", a.append('1'), 1);
        Doc.due("printed(0)", a.printed(0), NONE);
        Doc.due("restore(0)", a.restore(0), NOT_POSSIBLE);
        Doc.due("restore(1)", a.restore(1), NOT_POSSIBLE);
        Doc.due("undo()", a.undo(), NOT_POSSIBLE);
        Doc.due("unplaced()", a.unplaced(), 0);
        Doc.due("pageBound()", a.pageBound(), 0);
        Doc.due("setPageSize()", a.setPageSize(4, 4), 1616);
        Doc.due("setPageLimit()", a.setPageLimit(1), 2);
        Doc.due("setMargins()", a.setMargins(3, 3, 2), 0);
        Doc.due("setTrimming()", a.setTrimming(false), 1);
        Doc.due("setMatching()", a.setMatching(0), SpriteAtlas.EXACT);
        Doc.due("setRotation()", a.setRotation(true), 0);
        Doc.due("setGrouped()", a.setGrouped(true), 0);
        Doc.due("setOrder()", a.setOrder(3), SpriteAtlas.BY_NUMBER);
        Doc.due("setWay()", a.setWay(3), SpriteAtlas.SHORT_SIDE);
        SpriteAtlas b = new SpriteAtlas();
        Doc.due("another object", b.setPageSize(5, 5), 1616);
        Doc.due("another object has a text of its own", b.clearText(), 0);
    }

    private static void append() {
        Doc.says("2", "Appends a character to the text.");
        SpriteAtlas a = new SpriteAtlas();
        a.append('7');
        a.append('8');
        a.append(';');
        a.read();
        Doc.due("at its end", 10 * a.color(0, 0, 0) + a.color(0, 1, 0), 78);
        Doc.says("2", "- `character`: its code, 32 to 126");
        for (int code : new int[] {31, 127, 0, -1, 10, 128, 256 + 49, 65536 + 49, LOW, HIGH}) {
            Doc.due("append(" + code + ")", new SpriteAtlas().append(code), BAD);
        }
        for (int code = 32; code <= 126; code++) {
            Doc.due("append(" + code + ")", new SpriteAtlas().append(code), 1);
        }
        Doc.says("2", "Returns the length of the text; BAD_VALUE; FULL if it has 160 characters.");
        SpriteAtlas b = new SpriteAtlas();
        for (int length = 1; length <= 160; length++) {
            Doc.due("append()", b.append('~'), length);
        }
        Doc.due("a 161st character", b.append('~'), FULL);
        Doc.due("a wrong one", b.append(127), BAD);
        Doc.due("a wrong one", b.append(31), BAD);
        Doc.due("a 161st character again", b.append(' '), FULL);
        Doc.due("the length is as it was", b.clearText(), 160);
        Doc.due("append() to the empty text", b.append('~'), 1);
    }

    private static void clearText() {
        Doc.says("3", "Empties the text.");
        SpriteAtlas a = new SpriteAtlas();
        Check.text(a, "1;x");
        a.clearText();
        Doc.due("no fault is left", a.faultPosition(), NONE);
        Doc.due("no image is left", a.read(), 0);
        Doc.due("the next character is the first", a.append('1'), 1);
        Doc.says("3", "Returns the length that it had.");
        Doc.due("of one", a.clearText(), 1);
        Doc.due("of none", a.clearText(), 0);
        Check.text(a, " ".repeat(160));
        Doc.due("of a full one", a.clearText(), 160);
    }

    private static void faultPosition() {
        Doc.says("4", "Returns the fault position of the text; NONE if it has no fault.");
        SpriteAtlas a = new SpriteAtlas();
        Doc.due("no text", a.faultPosition(), NONE);
        a.append('1');
        Doc.due("1", a.faultPosition(), 1);
        a.append('/');
        Doc.due("1/", a.faultPosition(), 2);
        a.append('2');
        Doc.due("1/2", a.faultPosition(), 3);
        a.append(';');
        Doc.due("1/2;", a.faultPosition(), NONE);
        a.append(';');
        Doc.due("1/2;;", a.faultPosition(), 4);
        a.append('1');
        Doc.due("1/2;;1, the first fault", a.faultPosition(), 4);
        a.clearText();
        a.append(' ');
        Doc.due("a fault at 0", a.faultPosition(), 0);
        Doc.due("nothing has changed", a.faultPosition(), 0);
        Doc.due("nothing has changed", a.clearText(), 1);
    }

    private static void read() {
        Doc.says("5", "Adds the images of the text as sprites of group 0.");
        SpriteAtlas a = Check.with("1;");
        a.setGroup(0, 2);
        Doc.due("read()", Check.read(a, "23/45;6;"), 3);
        Doc.due("the first one stays", 10 * a.color(0, 0, 0) + a.groupOf(0), 12);
        Doc.due("the next", 10 * a.width(1) + a.height(1), 22);
        Doc.due("its colors", "" + a.color(1, 0, 0) + a.color(1, 1, 0) + a.color(1, 0, 1) + a.color(1, 1, 1), "2345");
        Doc.due("the last", a.color(2, 0, 0), 6);
        Doc.due("groups", a.groupOf(1) + a.groupOf(2), 0);
        a.setGroup(2, 3);
        a.drop(2);
        a.read();
        Doc.due("the group of one in place of a dropped one", a.groupOf(2), 0);
        SpriteAtlas b = new SpriteAtlas();
        Check.read(b, Check.image(8, 8, 9));
        b.drop(0);
        Check.read(b, "10/00;");
        Doc.due("nothing of a dropped image is left", 10 * b.trimWidth(0) + b.trimHeight(0), 11);
        Doc.says("5", "The text stays.");
        SpriteAtlas c = Check.with("1;2;");
        Doc.due("the same again", c.read(), 4);
        Doc.due("the same again", c.color(3, 0, 0), 2);
        Doc.due("its length", c.clearText(), 4);
    }

    private static void readErrors() {
        Doc.says("5", "Returns the number of sprites then; NOT_POSSIBLE if the text has a fault; FULL if there would be"
                + " more than 24 sprites.");
        SpriteAtlas a = new SpriteAtlas();
        Doc.due("no image", a.read(), 0);
        Doc.due("one image", Check.read(a, "1;"), 1);
        Doc.due("a fault at its end", Check.read(a, "1;2"), NOT_POSSIBLE);
        Doc.due("a fault at its begin", Check.read(a, "/1;2;"), NOT_POSSIBLE);
        Doc.due("nothing of it is read", a.sprites(), 1);
        Doc.due("23 more", Check.read(a, "2;".repeat(23)), 24);
        Doc.due("one more", Check.read(a, "3;"), FULL);
        Doc.due("one more, with a fault", Check.read(a, "3;4"), NOT_POSSIBLE);
        Doc.due("none more", Check.read(a, ""), 24);
        SpriteAtlas b = new SpriteAtlas();
        Doc.due("25 at once", Check.read(b, "1;".repeat(25)), FULL);
        Doc.due("none of them is read", b.sprites(), 0);
        Doc.due("24 at once", Check.read(b, "1;".repeat(24)), 24);
        Doc.due("the errors are no changes", b.undo(), 0);
        Doc.due("after undo()", b.read(), 24);
        b.drop(23);
        Doc.due("two, where one has room", Check.read(b, "1;2;"), FULL);
        Doc.due("one", Check.read(b, "1;"), 24);
    }

    private static String image(SpriteAtlas a, int sprite) {
        StringBuilder text = new StringBuilder();
        for (int y = 0; y < a.height(sprite); y++) {
            for (int x = 0; x < a.width(sprite); x++) {
                text.append(a.color(sprite, x, y));
            }
            text.append(y + 1 < a.height(sprite) ? "/" : ";");
        }
        return text.toString();
    }

    private static void draw() {
        Doc.says("6", "Adds random sprites of group 0.");
        SpriteAtlas a = Check.with("5;");
        a.setGroup(0, 1);
        Doc.due("draw(1, 8)", a.draw(1, 8), 9);
        Doc.due("the sprite before", image(a, 0), "5;");
        for (int sprite = 1; sprite < 9; sprite++) {
            Doc.due("group", a.groupOf(sprite), 0);
        }
        a.setGroup(8, 3);
        a.drop(8);
        a.draw(1, 1);
        Doc.due("the group of one in place of a dropped one", a.groupOf(8), 0);
        Doc.due("an equal start, an equal sprite", image(a, 8), image(a, 1));
        SpriteAtlas b = new SpriteAtlas();
        b.setTrimming(false);
        b.setMatching(SpriteAtlas.NEVER);
        b.draw(1, 1);
        b.draw(1, 1);
        Doc.due("without trimming and matching", b.trimHeight(1) + " " + b.originalOf(1), "4 -4");
        b.setMatching(SpriteAtlas.EXACT);
        b.draw(1, 1);
        Doc.due("with matching", b.originalOf(2), 0);
    }

    private static void drawnNumbers() {
        Doc.says("6", "For a random number, the state, which is start at first, becomes (state * 1103515245 + 12345)"
                + " modulo 2147483648 (as longs); the random number is the state divided by 65536, truncated.");
        SpriteAtlas a = new SpriteAtlas();
        // 0 becomes 12345 and 1406932606: 0 and 21468
        a.draw(0, 1);
        Doc.due("start 0", 10 * a.width(0) + a.height(0), 14);
        // 2147483647 becomes 2147483648 - 1103515245 + 12345 = 1043980748: 15929
        a.draw(2147483647, 1);
        Doc.due("the greatest start", a.width(1), 5);
        // 16838, 5758, 10113, 17515, 31051, 5627, 23010, 7419, 16212, 4086, 2749, 12767, 9084, 12060, 32225, 17543, ..
        Doc.says("6", "For each sprite, a random number modulo 5, plus 1, is its width; one modulo 5, plus 1, its height;"
                + " and for each pixel, row by row from the top, in each row from the left, one modulo 6, minus 2, but"
                + " at least 0, is its color.");
        a.draw(1, 1);
        Doc.due("start 1", image(a, 2), "1003/0100/0300/3311;");
        compareWithLongs(new int[] {0, 1, 2, 65535, 65536, 12345, 1000000000, 2147483646, 2147483647});
    }

    private static void compareWithLongs(int[] starts) {
        for (int start : starts) {
            SpriteAtlas a = new SpriteAtlas();
            a.draw(start, 8);
            long state = start;
            for (int sprite = 0; sprite < 8; sprite++) {
                state = (state * 1103515245L + 12345L) % 2147483648L;
                int wide = (int) (state / 65536) % 5 + 1;
                state = (state * 1103515245L + 12345L) % 2147483648L;
                int high = (int) (state / 65536) % 5 + 1;
                StringBuilder text = new StringBuilder();
                for (int i = 0; i < wide * high; i++) {
                    state = (state * 1103515245L + 12345L) % 2147483648L;
                    text.append(Math.max(0, (int) (state / 65536) % 6 - 2));
                    text.append(i + 1 == wide * high ? ";" : (i + 1) % wide == 0 ? "/" : "");
                }
                Doc.due("draw(" + start + ", 8), sprite " + sprite, image(a, sprite), text.toString());
            }
        }
    }

    private static void drawArguments() {
        Doc.says("6", "- `start`: the state at first, 0 to 2147483647");
        Doc.due("-1", new SpriteAtlas().draw(-1, 1), BAD);
        Doc.due("the lowest int", new SpriteAtlas().draw(LOW, 1), BAD);
        Doc.due("0", new SpriteAtlas().draw(0, 1), 1);
        Doc.due("2147483647", new SpriteAtlas().draw(HIGH, 1), 1);
        Doc.says("6", "- `n`: the number of sprites, 1 to 8");
        for (int n : new int[] {0, 9, -1, 24, LOW, HIGH}) {
            Doc.due("n = " + n, new SpriteAtlas().draw(1, n), BAD);
        }
        Doc.due("n = 1", new SpriteAtlas().draw(1, 1), 1);
        Doc.due("n = 8", new SpriteAtlas().draw(1, 8), 8);
        Doc.says("6", "Returns the number of sprites then; BAD_VALUE; FULL if there would be more than 24 sprites.");
        SpriteAtlas a = new SpriteAtlas();
        Doc.due("8", a.draw(1, 8), 8);
        Doc.due("16", a.draw(1, 8), 16);
        Doc.due("17", a.draw(1, 1), 17);
        Doc.due("25", a.draw(1, 8), FULL);
        Doc.due("none of them is drawn", a.sprites(), 17);
        Doc.due("24", a.draw(1, 7), 24);
        Doc.due("one more", a.draw(1, 1), FULL);
        Doc.due("nine more", a.draw(1, 9), BAD);
        Doc.due("one more of a wrong start", a.draw(-1, 1), BAD);
        Doc.due("the errors are no changes", a.undo(), 3);
        Doc.due("after undo()", a.sprites(), 17);
    }

    private static void sprites() {
        Doc.says("7", "Returns the number of sprites.");
        SpriteAtlas a = new SpriteAtlas();
        Doc.due("none", a.sprites(), 0);
        Check.read(a, "1;0;1;");
        Doc.due("copies and blank ones count", a.sprites(), 3);
        a.drop(0);
        Doc.due("one less", a.sprites(), 2);
        a.drop(0);
        a.drop(0);
        Doc.due("none again", a.sprites(), 0);
        a.drop(0);
        Doc.due("not less than none", a.sprites(), 0);
        for (int i = 0; i < 3; i++) {
            a.draw(i, 8);
        }
        Doc.due("24", a.sprites(), 24);
    }

    private static void sizes() {
        SpriteAtlas a = Check.with("0;12345678;1/2/3/4/5/6/7/8;000/010/000/000;");
        Arguments.sprite("8", (x, n) -> x.width(n));
        Doc.says("8", "Returns the width of its image; BAD_VALUE.");
        Doc.due("widths", "" + a.width(0) + a.width(1) + a.width(2) + a.width(3), "1813");
        Arguments.sprite("9", (x, n) -> x.height(n));
        Doc.says("9", "Returns the height of its image; BAD_VALUE.");
        Doc.due("heights", "" + a.height(0) + a.height(1) + a.height(2) + a.height(3), "1184");
        a.drop(1);
        Doc.due("after drop(1)", 10 * a.width(1) + a.height(1), 18);
        a.setTrimming(false);
        Doc.due("without trimming", 10 * a.width(2) + a.height(2), 34);
    }

    private static void color() {
        Arguments.sprite("10", (a, n) -> a.color(n, 0, 0));
        SpriteAtlas a = Check.with("123/456;98765432/10987654;0/7;");
        Doc.says("10", "- `x`: the column in its image");
        for (int x : new int[] {-1, 3, 8, LOW, HIGH}) {
            Doc.due("x = " + x, a.color(0, x, 0), BAD);
        }
        Doc.due("x = 7 of 8 columns", a.color(1, 7, 1), 4);
        Doc.due("x = 8 of 8 columns", a.color(1, 8, 1), BAD);
        Doc.due("x = 1 of one column", a.color(2, 1, 0), BAD);
        Doc.says("10", "- `y`: the row in its image");
        for (int y : new int[] {-1, 2, 8, LOW, HIGH}) {
            Doc.due("y = " + y, a.color(0, 0, y), BAD);
        }
        Doc.due("a row of a higher image", a.color(1, 0, 2), BAD);
        Doc.says("10", "Returns the color of the pixel; BAD_VALUE if there is no such sprite or pixel.");
        Doc.due("an image", image(a, 0), "123/456;");
        Doc.due("colors 0 to 9", image(a, 1), "98765432/10987654;");
        Doc.due("a transparent pixel", a.color(2, 0, 0), 0);
        Doc.due("neither sprite nor pixel", a.color(3, 9, 9), BAD);
    }

    private static void setPixel() {
        Arguments.sprite("11", (a, n) -> a.setPixel(n, 0, 0, 1));
        SpriteAtlas a = Check.with("12345678/87654321;0;");
        Doc.says("11", "Sets the color of a pixel of a sprite.");
        a.setPixel(0, 7, 0, 0);
        a.setPixel(0, 0, 1, 9);
        a.setPixel(1, 0, 0, 3);
        Doc.due("two of them", image(a, 0), "12345670/97654321;");
        Doc.due("the only one", image(a, 1), "3;");
        Doc.says("11", "- `x`: the column in its image");
        for (int x : new int[] {-1, 8, LOW, HIGH}) {
            Doc.due("x = " + x, a.setPixel(0, x, 0, 1), BAD);
        }
        Doc.due("x = 1 of one column", a.setPixel(1, 1, 0, 1), BAD);
        Doc.says("11", "- `y`: the row in its image");
        for (int y : new int[] {-1, 2, 8, LOW, HIGH}) {
            Doc.due("y = " + y, a.setPixel(0, 0, y, 1), BAD);
        }
        Doc.says("11", "- `color`: the new color, 0 to 9");
        for (int color : new int[] {-1, 10, 16, LOW, HIGH}) {
            Doc.due("color " + color, a.setPixel(0, 0, 0, color), BAD);
        }
        Doc.due("nothing has changed", image(a, 0) + image(a, 1), "12345670/97654321;3;");
        Doc.says("11", "Returns the previous color; BAD_VALUE.");
        Doc.due("1", a.setPixel(0, 0, 0, 0), 1);
        Doc.due("0", a.setPixel(0, 0, 0, 9), 0);
        Doc.due("9", a.setPixel(0, 0, 0, 9), 9);
        Doc.due("9 again", a.setPixel(0, 0, 0, 5), 9);
        SpriteAtlas b = Check.with("123/456/789;");
        for (int i = 0; i < 9; i++) {
            Doc.due("column " + i % 3 + ", row " + i / 3, b.setPixel(0, i % 3, i / 3, 0), i + 1);
        }
    }

    private static String firstColors(SpriteAtlas a) {
        StringBuilder text = new StringBuilder();
        for (int sprite = 0; sprite < a.sprites(); sprite++) {
            text.append(a.color(sprite, 0, 0));
        }
        return text.toString();
    }

    private static void drop() {
        Arguments.sprite("12", (a, n) -> a.drop(n));
        Doc.says("12", "Removes a sprite.");
        SpriteAtlas a = Check.with("1;22;3/3;");
        a.drop(1);
        Doc.due("the one in the middle", image(a, 0) + image(a, 1), "1;3/3;");
        Doc.due("no third one", a.color(2, 0, 0), BAD);
        a.drop(1);
        Doc.due("the last one", firstColors(a), "1");
        a.drop(0);
        Doc.due("the only one", firstColors(a), "");
        Doc.says("12", "The numbers of all later ones decrease by 1.");
        SpriteAtlas b = Check.with("1;2;3;4;5;6;7;8;9;1;2;3;4;5;6;7;8;9;1;2;3;4;5;6;");
        b.setGroup(23, 3);
        b.setGroup(6, 2);
        b.drop(0);
        Doc.due("the first of 24", firstColors(b), "23456789123456789123456");
        Doc.due("groups", 10 * b.groupOf(22) + b.groupOf(5), 32);
        b.drop(5);
        Doc.due("one in the middle", firstColors(b), "2345689123456789123456");
        Doc.due("groups", 10 * b.groupOf(21) + b.groupOf(5), 30);
        b.drop(21);
        Doc.due("the last one", firstColors(b), "234568912345678912345");
        Check.read(b, "7;8;9;");
        Doc.due("24 again", firstColors(b), "234568912345678912345789");
        b.drop(23);
        Doc.due("the last of 24", firstColors(b), "23456891234567891234578");
        SpriteAtlas c = Check.with("1;2;1;");
        c.drop(0);
        Doc.due("originals are others", c.originalOf(1), NONE);
        Doc.says("12", "Returns the number of sprites that are left; BAD_VALUE.");
        Doc.due("one", c.drop(1), 1);
        Doc.due("none", c.drop(0), 0);
        Doc.due("nothing to drop", c.drop(0), BAD);
    }

    private static void groups() {
        Arguments.sprite("13", (a, n) -> a.setGroup(n, 1));
        Doc.says("13", "Sets the group of a sprite.");
        SpriteAtlas a = Check.with("1;2;1;");
        a.setGroup(1, 3);
        Doc.due("of no other", "" + a.groupOf(0) + a.groupOf(1) + a.groupOf(2), "030");
        a.setGroup(0, 1);
        Doc.due("not of a copy", "" + a.groupOf(0) + a.groupOf(1) + a.groupOf(2), "130");
        Doc.says("13", "- `group`: the new group, 0 to 3");
        for (int group : new int[] {-1, 4, LOW, HIGH}) {
            Doc.due("group " + group, a.setGroup(0, group), BAD);
        }
        Doc.due("the group is as it was", a.groupOf(0), 1);
        Doc.says("13", "Returns the previous group; BAD_VALUE.");
        Doc.due("3", a.setGroup(1, 0), 3);
        Doc.due("0", a.setGroup(1, 0), 0);
        Doc.due("0 again", a.setGroup(1, 2), 0);
        Doc.due("no such sprite or group", a.setGroup(3, 4), BAD);
        Arguments.sprite("14", (x, n) -> x.groupOf(n));
        Doc.says("14", "Returns its group; BAD_VALUE.");
        Doc.due("at first", Check.with("1;").groupOf(0), 0);
        for (int group = 0; group <= 3; group++) {
            a.setGroup(2, group);
            Doc.due("groupOf(2)", a.groupOf(2), group);
        }
    }

    private static void trimPlace() {
        SpriteAtlas a = Check.with(Check.image(8, 8, 0) + "0;100/000;000/001;");
        a.setPixel(0, 7, 6, 9);
        Arguments.sprite("15", (x, n) -> x.trimLeft(n));
        Doc.says("15", "Returns the left column of its trim rectangle; BAD_VALUE; NONE if it is blank.");
        Doc.due("the last column", a.trimLeft(0), 7);
        Doc.due("blank", a.trimLeft(1), NONE);
        Doc.due("the first column", a.trimLeft(2), 0);
        Doc.due("column 2", a.trimLeft(3), 2);
        Arguments.sprite("16", (x, n) -> x.trimTop(n));
        Doc.says("16", "Returns the upper row of its trim rectangle; BAD_VALUE; NONE if it is blank.");
        Doc.due("row 6", a.trimTop(0), 6);
        Doc.due("blank", a.trimTop(1), NONE);
        Doc.due("the first row", a.trimTop(2), 0);
        Doc.due("the last row", a.trimTop(3), 1);
        a.setTrimming(false);
        for (int sprite = 0; sprite < 4; sprite++) {
            Doc.due("the whole image", a.trimLeft(sprite) + "," + a.trimTop(sprite), "0,0");
        }
    }

    private static void trimSize() {
        SpriteAtlas a = Check.with("00000000/00000000;00100010/01000000/00010000;" + Check.image(8, 8, 1));
        Arguments.sprite("17", (x, n) -> x.trimWidth(n));
        Doc.says("17", "Returns the width of its trim rectangle, 0 if it is blank; BAD_VALUE.");
        Doc.due("blank", a.trimWidth(0), 0);
        Doc.due("of columns 1 to 6", a.trimWidth(1), 6);
        Doc.due("all", a.trimWidth(2), 8);
        Arguments.sprite("18", (x, n) -> x.trimHeight(n));
        Doc.says("18", "Returns the height of its trim rectangle, 0 if it is blank; BAD_VALUE.");
        Doc.due("blank", a.trimHeight(0), 0);
        Doc.due("of rows 0 to 2", a.trimHeight(1), 3);
        Doc.due("all", a.trimHeight(2), 8);
        a.setTrimming(false);
        Doc.due("the whole image", 10 * a.trimWidth(0) + a.trimHeight(0), 82);
        Doc.due("the whole image", 10 * a.trimWidth(1) + a.trimHeight(1), 83);
    }

    private static void originalOf() {
        Arguments.sprite("19", (x, n) -> x.originalOf(n));
        Doc.says("19", "Returns the number of its original; BAD_VALUE; NONE if it is no copy.");
        SpriteAtlas a = Check.with("12;0;12;21;0;21;");
        Doc.due("an original", a.originalOf(0), NONE);
        Doc.due("a blank one", a.originalOf(1), NONE);
        Doc.due("a copy of sprite 0", a.originalOf(2), 0);
        Doc.due("another original", a.originalOf(3), NONE);
        Doc.due("a second blank one", a.originalOf(4), NONE);
        Doc.due("a copy of sprite 3", a.originalOf(5), 3);
        a.setMatching(SpriteAtlas.ANY);
        Doc.due("all of sprite 0", a.originalOf(3) + a.originalOf(5), 0);
        SpriteAtlas b = Check.with("1;".repeat(23) + "2;");
        Doc.due("the last but one of 24", b.originalOf(22), 0);
        Doc.due("the last of 24", b.originalOf(23), NONE);
    }

    private static void orientationOf() {
        Arguments.sprite("20", (x, n) -> x.orientationOf(n));
        Doc.says("20", "Returns the smallest q, of those that the matching allows, such that its trimmed image is"
                + " orientation q of that of its original; BAD_VALUE; NONE if it is no copy.");
        SpriteAtlas a = Check.with("123;123;321;1/2/3;3/2/1;0;");
        Doc.due("EXACT", "" + a.orientationOf(1) + a.orientationOf(2) + a.orientationOf(3), "0-4-4");
        a.setMatching(SpriteAtlas.TURNED);
        Doc.due("TURNED", "" + a.orientationOf(1) + a.orientationOf(2) + a.orientationOf(3) + a.orientationOf(4),
                "0213");
        a.setMatching(SpriteAtlas.ANY);
        Doc.due("ANY, the smallest", "" + a.orientationOf(1) + a.orientationOf(2) + a.orientationOf(3)
                + a.orientationOf(4), "0213");
        Doc.due("an original", a.orientationOf(0), NONE);
        Doc.due("a blank one", a.orientationOf(5), NONE);
        SpriteAtlas b = Check.with("12/30;21/03;02/31;30/12;13/20;");
        b.setMatching(SpriteAtlas.ANY);
        Doc.due("mirrored", "" + b.orientationOf(1) + b.orientationOf(2) + b.orientationOf(3) + b.orientationOf(4),
                "4567");
        b.setMatching(SpriteAtlas.TURNED);
        Doc.due("turns of a mirrored one", b.orientationOf(1) + "" + b.orientationOf(2) + b.orientationOf(3)
                + b.orientationOf(4), "-4123");
        SpriteAtlas c = Check.with("11/11;11/11;2;2;34/43;43/34;");
        c.setMatching(SpriteAtlas.ANY);
        Doc.due("several q", "" + c.orientationOf(1) + c.orientationOf(3) + c.orientationOf(5), "001");
    }
}
