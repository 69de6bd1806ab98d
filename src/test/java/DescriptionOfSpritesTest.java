/** The document's description as far as it is about calls, the text, sprites and their copies, sentence by sentence. */
public final class DescriptionOfSpritesTest {
    private static final int BAD = SpriteAtlas.BAD_VALUE, FULL = SpriteAtlas.FULL, NONE = SpriteAtlas.NONE;
    private static final int NOT_POSSIBLE = SpriteAtlas.NOT_POSSIBLE;
    private static final int LOW = Integer.MIN_VALUE, HIGH = Integer.MAX_VALUE;

    private interface Call {
        int with(SpriteAtlas atlas, int argument);
    }

    public static void main(String[] args) {
        whatItIs();
        manyCalls();
        constants();
        badValues();
        full();
        notPossible();
        orderOfErrors();
        errorsChangeNothing();
        none();
        atMost24Sprites();
        sizes();
        colors();
        groups();
        textOf160();
        images();
        rows();
        digits();
        nothingElse();
        faultPositions();
        trimRectangles();
        blankSprites();
        wholeImages();
        trimmedImages();
        orientations();
        kindsOfMatching();
        copies();
        lowestOriginal();
        neverCopies();
        originals();
        Doc.finish("What it is", "Return values", "Sprites", "Trimming", "Orientations", "The constants");
    }

    // ---- what it is, and what calls answer

    private static void whatItIs() {
        Doc.says("What it is", "A texture atlas packer. Sprites are read from a text, trimmed, and compared with one"
                + " another, also turned and mirrored; those that are not copies are packed into pages by maximal free"
                + " rectangles, with padding, a border and extruded edges. Sprites can be inserted into a packed atlas"
                + " and removed from it; the class finds the pixels of pages, records from which each sprite can be"
                + " restored, the best of several packing methods, and smallest pages.");
        SpriteAtlas a = new SpriteAtlas();
        a.setMatching(SpriteAtlas.ANY);
        a.setMargins(1, 1, 1);
        Doc.due("read()", Check.read(a, "012/034;30/10/42;42/31;5;"), 4);
        Doc.due("pack()", a.pack(), 0);
        Doc.due("places", Check.places(a), "0:2,2 0:2,7 0:2,2 0:2,13");
        Doc.due("unplace(3)", a.unplace(3), 0);
        Doc.due("insert(3)", a.insert(3), 0);
        Doc.due("recordOf(2), a mirrored one", a.recordOf(2), 5);
        Doc.due("pixel, extruded", a.pixel(0, 1, 1), 1);
        Doc.due("bestMethod()", a.bestMethod(), 0);
        Doc.due("smallestPage()", a.smallestPage(), 11);
    }

    private static void manyCalls() {
        Doc.says("What it is", "An object is used for at most 512 calls after it has been made; what later calls answer"
                + " is free.");
        SpriteAtlas a = Check.with("12/34;5;666;");
        a.setRotation(true);
        a.pack();
        long sum = a.checksum();
        int calls = 12 + 5;
        while (calls < 511) {
            int due = calls % 2 == 0 ? 4 : 0;
            Doc.due("call " + (calls + 1), calls % 2 == 0 ? a.smallestPage() : a.pack(), due);
            calls++;
        }
        Doc.due("the 512th call", a.checksum(), sum);
    }

    private static void constants() {
        Doc.says("The constants", "The constants: - `BAD_VALUE = -1`: An argument is out of its range, or names"
                + " something that does not exist. - `FULL = -2`: There is no room. - `NOT_POSSIBLE = -3`: The call is"
                + " not possible now. - `NONE = -4`: There is no such thing; not an error.");
        Doc.due("BAD_VALUE", new SpriteAtlas().width(0), -1);
        Doc.due("BAD_VALUE", BAD, -1);
        Doc.due("FULL", FULL, -2);
        Doc.due("FULL", Check.read(Check.with("1;".repeat(24)), "1;"), -2);
        Doc.due("NOT_POSSIBLE", NOT_POSSIBLE, -3);
        Doc.due("NOT_POSSIBLE", new SpriteAtlas().undo(), -3);
        Doc.due("NONE", NONE, -4);
        Doc.due("NONE", new SpriteAtlas().faultPosition(), -4);
        Doc.says("The constants", "- `NEVER = 0, EXACT = 1, TURNED = 2, ANY = 3`: Kinds of matching.");
        Doc.due("kinds", "" + SpriteAtlas.NEVER + SpriteAtlas.EXACT + SpriteAtlas.TURNED + SpriteAtlas.ANY, "0123");
        Doc.says("The constants", "- `BY_NUMBER = 0, BY_AREA = 1, BY_SIDE = 2, BY_HEIGHT = 3`: Orders.");
        Doc.due("orders", "" + SpriteAtlas.BY_NUMBER + SpriteAtlas.BY_AREA + SpriteAtlas.BY_SIDE
                + SpriteAtlas.BY_HEIGHT, "0123");
        Doc.says("The constants", "- `SHORT_SIDE = 0, LONG_SIDE = 1, AREA = 2, TOP_LEFT = 3`: Ways of choosing a free"
                + " rectangle. The constructor and the methods follow, a promise each: the signature, then what it"
                + " does.");
        Doc.due("ways", "" + SpriteAtlas.SHORT_SIDE + SpriteAtlas.LONG_SIDE + SpriteAtlas.AREA + SpriteAtlas.TOP_LEFT,
                "0123");
    }

    /** Sprites 0 (3 x 2), 1 (blank), 2 (a copy of 0), 3; all are placed on one page of 6 x 5; slot 0 is filled. */
    private static SpriteAtlas packed() {
        SpriteAtlas a = Check.with("123/456;0;123/456;7;");
        a.setPageSize(6, 5);
        a.pack();
        a.keep(0);
        a.keep(1);
        return a;
    }

    private static void argument(String call, int least, int most, Call tried) {
        Doc.holds(call + " with " + least, tried.with(packed(), least) != BAD);
        Doc.holds(call + " with " + most, tried.with(packed(), most) != BAD);
        for (int wrong : new int[] {least - 1, most + 1, LOW, least > 1 ? -least : -2, 1000000}) {
            if (wrong < least || wrong > most) {
                Doc.due(call + " with " + wrong, tried.with(packed(), wrong), BAD);
            }
        }
        if (most < HIGH) {
            Doc.due(call + " with " + HIGH, tried.with(packed(), HIGH), BAD);
        }
    }

    private static void badValues() {
        Doc.says("Return values", "BAD_VALUE: an argument is out of its range, or names something that does not exist.");
        argument("append", 32, 126, (a, n) -> a.append(n));
        Doc.due("append(65536 + 48)", new SpriteAtlas().append(65536 + 48), BAD);
        Doc.due("append(256 + 48)", new SpriteAtlas().append(256 + 48), BAD);
        argument("draw: start", 0, HIGH, (a, n) -> a.draw(n, 1));
        argument("draw: n", 1, 8, (a, n) -> a.draw(1, n));
        badSpriteValues();
        argument("setPageSize: width", 4, 32, (a, n) -> a.setPageSize(n, 9));
        argument("setPageSize: height", 4, 32, (a, n) -> a.setPageSize(9, n));
        argument("setPageLimit", 1, 4, (a, n) -> a.setPageLimit(n));
        argument("setMargins: padding", 0, 3, (a, n) -> a.setMargins(n, 0, 0));
        argument("setMargins: border", 0, 3, (a, n) -> a.setMargins(0, n, 0));
        argument("setMargins: extrusion", 0, 2, (a, n) -> a.setMargins(0, 0, n));
        argument("setMatching", 0, 3, (a, n) -> a.setMatching(n));
        argument("setOrder", 0, 3, (a, n) -> a.setOrder(n));
        argument("setWay", 0, 3, (a, n) -> a.setWay(n));
        badPageValues();
        argument("print", 0, 3, (a, n) -> a.print(n));
        argument("printed", 0, HIGH, (a, n) -> a.printed(n));
        argument("keep", 0, 1, (a, n) -> a.keep(n));
        argument("restore", 0, 1, (a, n) -> a.restore(n));
    }

    private static void badSpriteValues() {
        argument("width", 0, 3, (a, n) -> a.width(n));
        argument("height", 0, 3, (a, n) -> a.height(n));
        argument("color: sprite", 0, 3, (a, n) -> a.color(n, 0, 0));
        argument("color: x", 0, 2, (a, n) -> a.color(0, n, 0));
        argument("color: y", 0, 1, (a, n) -> a.color(0, 0, n));
        argument("setPixel: sprite", 0, 3, (a, n) -> a.setPixel(n, 0, 0, 1));
        argument("setPixel: x", 0, 2, (a, n) -> a.setPixel(0, n, 0, 1));
        argument("setPixel: y", 0, 1, (a, n) -> a.setPixel(0, 0, n, 1));
        argument("setPixel: color", 0, 9, (a, n) -> a.setPixel(0, 0, 0, n));
        argument("drop", 0, 3, (a, n) -> a.drop(n));
        argument("setGroup: sprite", 0, 3, (a, n) -> a.setGroup(n, 1));
        argument("setGroup: group", 0, 3, (a, n) -> a.setGroup(0, n));
        argument("groupOf", 0, 3, (a, n) -> a.groupOf(n));
        argument("trimLeft", 0, 3, (a, n) -> a.trimLeft(n));
        argument("trimTop", 0, 3, (a, n) -> a.trimTop(n));
        argument("trimWidth", 0, 3, (a, n) -> a.trimWidth(n));
        argument("trimHeight", 0, 3, (a, n) -> a.trimHeight(n));
        argument("originalOf", 0, 3, (a, n) -> a.originalOf(n));
        argument("orientationOf", 0, 3, (a, n) -> a.orientationOf(n));
        argument("insert", 0, 3, (a, n) -> a.insert(n));
        argument("unplace", 0, 3, (a, n) -> a.unplace(n));
        argument("pageOf", 0, 3, (a, n) -> a.pageOf(n));
        argument("xOf", 0, 3, (a, n) -> a.xOf(n));
        argument("yOf", 0, 3, (a, n) -> a.yOf(n));
        argument("isTurned", 0, 3, (a, n) -> a.isTurned(n));
        argument("recordOf", 0, 3, (a, n) -> a.recordOf(n));
    }

    private static void badPageValues() {
        argument("pixel: page", 0, 0, (a, n) -> a.pixel(n, 0, 0));
        argument("pixel: x", 0, 5, (a, n) -> a.pixel(0, n, 0));
        argument("pixel: y", 0, 4, (a, n) -> a.pixel(0, 0, n));
        argument("spriteAt: page", 0, 0, (a, n) -> a.spriteAt(n, 0, 0));
        argument("spriteAt: x", 0, 5, (a, n) -> a.spriteAt(0, n, 0));
        argument("spriteAt: y", 0, 4, (a, n) -> a.spriteAt(0, 0, n));
        argument("usedWidth", 0, 0, (a, n) -> a.usedWidth(n));
        argument("usedHeight", 0, 0, (a, n) -> a.usedHeight(n));
        argument("freeRectangles", 0, 0, (a, n) -> a.freeRectangles(n));
        argument("freeX: page", 0, 0, (a, n) -> a.freeX(n, 0));
        argument("freeX: index", 0, 2, (a, n) -> a.freeX(0, n));
        argument("freeY: page", 0, 0, (a, n) -> a.freeY(n, 0));
        argument("freeY: index", 0, 2, (a, n) -> a.freeY(0, n));
        argument("freeWidth: page", 0, 0, (a, n) -> a.freeWidth(n, 0));
        argument("freeWidth: index", 0, 2, (a, n) -> a.freeWidth(0, n));
        argument("freeHeight: page", 0, 0, (a, n) -> a.freeHeight(n, 0));
        argument("freeHeight: index", 0, 2, (a, n) -> a.freeHeight(0, n));
        argument("fill", 0, 0, (a, n) -> a.fill(n, false));
        argument("fill", 0, 0, (a, n) -> a.fill(n, true));
    }

    private static void full() {
        Doc.says("Return values", "FULL: there is no room.");
        SpriteAtlas a = Check.with("1;".repeat(24));
        Doc.due("read() of a 25th sprite", a.read(), FULL);
        Doc.due("draw() of a 25th sprite", a.draw(1, 1), FULL);
        Check.text(a, ";".repeat(160));
        Doc.due("append() of a 161st character", a.append(';'), FULL);
        SpriteAtlas b = Check.with(Check.image(8, 5, 1));
        b.setPageSize(8, 4);
        Doc.due("insert() of too high a box", b.insert(0), FULL);
    }

    private static void notPossible() {
        Doc.says("Return values", "NOT_POSSIBLE: the call is not possible now.");
        SpriteAtlas a = new SpriteAtlas();
        Doc.due("undo() without a history", a.undo(), NOT_POSSIBLE);
        Doc.due("restore() of an empty slot", a.restore(0), NOT_POSSIBLE);
        Doc.due("read() of a fault", Check.read(a, "1"), NOT_POSSIBLE);
        Check.read(a, "1;0;1;");
        Doc.due("unplace() of what is not placed", a.unplace(0), NOT_POSSIBLE);
        a.pack();
        Doc.due("insert() of what is placed", a.insert(0), NOT_POSSIBLE);
        Doc.due("insert() of a blank sprite", a.insert(1), NOT_POSSIBLE);
        Doc.due("unplace() of a copy", a.unplace(2), NOT_POSSIBLE);
        Doc.due("unplace() of what is placed", a.unplace(0), 0);
        Doc.due("undo() with a history", a.undo(), 2);
    }

    private static void orderOfErrors() {
        Doc.says("Return values", "Each method names its errors in the order in which they are checked, and returns the"
                + " first one that applies;");
        SpriteAtlas a = Check.with("1;".repeat(24));
        Doc.due("draw: too many, and no room", a.draw(1, 9), BAD);
        Doc.due("draw: a negative start, and no room", a.draw(-1, 1), BAD);
        Check.text(a, "1;x");
        Doc.due("read: a fault, and no room", a.read(), NOT_POSSIBLE);
        Check.text(a, ";".repeat(160));
        Doc.due("append: no character, and no room", a.append(31), BAD);
        Doc.due("append: no character, and no room", a.append(127), BAD);
        SpriteAtlas b = Check.with(Check.image(4, 4, 1) + Check.image(4, 4, 2) + "0;" + Check.image(4, 4, 1));
        b.setPageSize(4, 4);
        b.setPageLimit(1);
        b.pack();
        Doc.due("insert: no such sprite, and no room", b.insert(4), BAD);
        Doc.due("insert: no such sprite, and no room", b.insert(-1), BAD);
        Doc.due("insert: placed, and no room", b.insert(0), NOT_POSSIBLE);
        Doc.due("insert: blank, and no room", b.insert(2), NOT_POSSIBLE);
        Doc.due("insert: a copy, and no room", b.insert(3), NOT_POSSIBLE);
        Doc.due("insert: no room", b.insert(1), FULL);
        Doc.due("unplace: no such sprite, not placed", b.unplace(4), BAD);
        Doc.due("restore: no such slot, none is filled", b.restore(2), BAD);
        Doc.due("restore: no such slot, none is filled", b.restore(-1), BAD);
    }

    /** RefusedCallsTest does this for every method. */
    private static void errorsChangeNothing() {
        Doc.says("Return values", "a call that returns an error changes nothing.");
        SpriteAtlas a = packed();
        long sum = a.checksum();
        Doc.due("setMargins(3, 3, 3)", a.setMargins(3, 3, 3), BAD);
        Doc.due("setPageSize(32, 33)", a.setPageSize(32, 33), BAD);
        Doc.due("setGroup(3, 4)", a.setGroup(3, 4), BAD);
        Doc.due("checksum()", a.checksum(), sum);
        Doc.due("undo()", a.undo(), 2);
        Doc.due("setPageSize", a.setPageSize(32, 32), 605);
        Doc.due("setMargins", a.setMargins(0, 0, 0), 0);
    }

    private static void none() {
        Doc.says("Return values", "NONE is no error; it means that there is no such thing, and it is returned only if no"
                + " error applies.");
        SpriteAtlas a = new SpriteAtlas();
        Doc.due("faultPosition() of no text", a.faultPosition(), NONE);
        Doc.due("printed(0), nothing is printed", a.printed(0), NONE);
        Doc.due("printed(-1), nothing is printed", a.printed(-1), BAD);
        Doc.due("pageOf(0), not placed nor there", a.pageOf(0), BAD);
        Check.read(a, "0;");
        Doc.due("trimLeft(0), blank", a.trimLeft(0), NONE);
        Doc.due("trimLeft(1), not there", a.trimLeft(1), BAD);
        Doc.due("originalOf(1), not there", a.originalOf(1), BAD);
        Doc.due("recordOf(1), not there", a.recordOf(1), BAD);
        Doc.due("spriteAt(0, 0, 0), no page", a.spriteAt(0, 0, 0), BAD);
    }

    // ---- sprites and the text

    private static void atMost24Sprites() {
        Doc.says("Sprites", "There are at most 24 sprites, numbered from 0 in the order in which they were added.");
        SpriteAtlas a = new SpriteAtlas();
        for (int i = 0; i < 24; i++) {
            Doc.due("read() of one more", Check.read(a, "1" + i % 10 + i / 10 + ";"), i + 1);
        }
        for (int i = 0; i < 24; i++) {
            Doc.due("color of sprite " + i, 10 * a.color(i, 2, 0) + a.color(i, 1, 0), i);
        }
        Doc.due("a 25th one", a.read(), FULL);
        Doc.due("a 25th one", a.draw(0, 1), FULL);
        Doc.due("width(24)", a.width(24), BAD);
        a.drop(5);
        Doc.due("in place of a dropped one", a.draw(0, 1), 24);
    }

    private static void sizes() {
        Doc.says("Sprites", "A sprite is an image with a width and a height from 1 to 8;");
        for (int wide = 1; wide <= 8; wide++) {
            for (int high = 1; high <= 8; high++) {
                SpriteAtlas a = Check.with(Check.image(wide, high, 5));
                Doc.due("width", a.width(0), wide);
                Doc.due("height", a.height(0), high);
            }
        }
        Doc.due("9 wide", Check.read(new SpriteAtlas(), Check.image(9, 1, 5)), NOT_POSSIBLE);
        Doc.due("9 high", Check.read(new SpriteAtlas(), Check.image(1, 9, 5)), NOT_POSSIBLE);
        Doc.due("nothing wide", Check.read(new SpriteAtlas(), ";"), NOT_POSSIBLE);
    }

    private static void colors() {
        Doc.says("Sprites", "the pixel in column x and row y (both from 0, from the left and from the top) has a color"
                + " from 0 to 9, where 0 is transparent.");
        SpriteAtlas a = Check.with("01234567/89876543/00000000;");
        String rows = "012345678987654300000000";
        for (int i = 0; i < 24; i++) {
            Doc.due("color(0, " + i % 8 + ", " + i / 8 + ")", a.color(0, i % 8, i / 8), rows.charAt(i) - '0');
        }
        Doc.due("a transparent row is trimmed", a.trimHeight(0), 2);
        Doc.due("color 0", a.setPixel(0, 7, 2, 0), 0);
        Doc.due("color 9", a.setPixel(0, 7, 2, 9), 0);
        Doc.due("color 10", a.setPixel(0, 7, 2, 10), BAD);
        Doc.due("color -1", a.setPixel(0, 7, 2, -1), BAD);
        Doc.due("what is not transparent isn't trimmed", a.trimHeight(0), 3);
    }

    private static void groups() {
        Doc.says("Sprites", "A sprite belongs to a group from 0 to 3, at first 0.");
        SpriteAtlas a = Check.with("1;");
        a.draw(7, 1);
        Doc.due("of a read one", a.groupOf(0), 0);
        Doc.due("of a drawn one", a.groupOf(1), 0);
        for (int group = 1; group <= 4; group++) {
            Doc.due("setGroup", a.setGroup(0, group), group < 4 ? group - 1 : BAD);
        }
        Doc.due("back to 0", a.setGroup(0, 0), 3);
        Doc.due("-1", a.setGroup(0, -1), BAD);
        a.setGroup(1, 2);
        a.drop(1);
        a.draw(7, 1);
        Doc.due("of one in place of a dropped one", a.groupOf(1), 0);
    }

    private static void textOf160() {
        Doc.says("Sprites", "The text buffer holds at most 160 characters.");
        SpriteAtlas a = new SpriteAtlas();
        String text = Check.image(8, 8, 7) + Check.image(8, 8, 6) + "11111111;2;22;3;";
        for (int i = 0; i < 160; i++) {
            Doc.due("append", a.append(text.charAt(i)), i + 1);
        }
        Doc.due("one more", a.append('3'), FULL);
        Doc.due("all of it is read", a.read(), 6);
        Doc.due("the last character too", a.color(5, 0, 0), 3);
        Doc.due("clearText()", a.clearText(), 160);
        Doc.due("there is room again", a.append('3'), 1);
    }

    private static int fault(String text) {
        SpriteAtlas a = new SpriteAtlas();
        Check.text(a, text);
        return a.faultPosition();
    }

    private static void images() {
        Doc.says("Sprites", "Its text consists of images, perhaps none, each followed by a semicolon;");
        Doc.due("no image", fault(""), NONE);
        Doc.due("no image", new SpriteAtlas().read(), 0);
        Doc.due("one image", fault("1;"), NONE);
        Doc.due("two images", fault("1;2;"), NONE);
        Doc.due("no semicolon", fault("1"), 1);
        Doc.due("no semicolon after the second one", fault("1;2"), 3);
        Doc.due("a semicolon alone", fault(";"), 0);
        Doc.due("two semicolons", fault("1;;"), 2);
    }

    private static void rows() {
        Doc.says("Sprites", "an image consists of 1 to 8 rows, from the top, with a slash between each two of them;");
        Doc.due("one row", fault("1;"), NONE);
        Doc.due("8 rows", fault("1/2/3/4/5/6/7/8;"), NONE);
        Doc.due("9 rows", fault("1/2/3/4/5/6/7/8/9;"), 15);
        Doc.due("a slash after the 8th row", fault("1/2/3/4/5/6/7/8/"), 15);
        Doc.due("8 rows twice", fault("1/2/3/4/5/6/7/8;1/2/3/4/5/6/7/8;"), NONE);
        Doc.due("9 rows after others", fault("1/2;1/2/3/4/5/6/7/8/9;"), 19);
        Doc.due("a slash first", fault("/1;"), 0);
        Doc.due("a slash last", fault("1/;"), 2);
        Doc.due("two slashes", fault("1//2;"), 2);
        SpriteAtlas a = Check.with("1/2/3/4/5/6/7/8;");
        for (int y = 0; y < 8; y++) {
            Doc.due("from the top", a.color(0, 0, y), y + 1);
        }
    }

    private static void digits() {
        Doc.says("Sprites", "a row consists of digits, the colors of its pixels from the left, 1 to 8 of them, as many in"
                + " each row of an image.");
        Doc.due("one digit", fault("0;"), NONE);
        Doc.due("8 digits", fault("01234567;"), NONE);
        Doc.due("9 digits", fault("012345678;"), 8);
        Doc.due("9 digits in the second row", fault("01234567/012345678;"), 17);
        Doc.due("fewer in the second row", fault("12/3;"), 4);
        Doc.due("fewer in the second of three rows", fault("12/3/45;"), 4);
        Doc.due("more in the second row", fault("12/345;"), 5);
        Doc.due("fewer in the third row", fault("12/34/5;"), 7);
        Doc.due("more in the third row", fault("12/34/567;"), 8);
        Doc.due("more in the next image", fault("12/34;567;"), NONE);
        Doc.due("fewer in the next image", fault("12/34;5/6;"), NONE);
        SpriteAtlas a = Check.with("90123456;");
        for (int x = 0; x < 8; x++) {
            Doc.due("from the left", a.color(0, x, 0), (9 + x) % 10);
        }
    }

    private static void nothingElse() {
        Doc.says("Sprites", "There is nothing else in the text.");
        for (char c = 32; c <= 126; c++) {
            boolean digit = c >= '0' && c <= '9';
            Doc.due("\"" + c + ";\"", fault(c + ";"), digit ? NONE : 0);
            Doc.due("\"1" + c + ";\"", fault("1" + c + ";"), digit ? NONE : c == '/' || c == ';' ? 2 : 1);
            Doc.due("\"1;" + c + "\"", fault("1;" + c), digit ? 3 : 2);
        }
    }

    private static void faultPositions() {
        Doc.says("Sprites", "The fault position is the index, counted from 0, of the first character that cannot follow"
                + " the characters before it in such a text, or the length of the text if it ends too early.");
        Doc.due("the first character", fault("x"), 0);
        Doc.due("the first of two faults", fault("1x2x"), 1);
        Doc.due("it ends in a row", fault("12"), 2);
        Doc.due("it ends after a slash", fault("12/"), 3);
        Doc.due("it ends in a row that is too short", fault("12/3"), 4);
        Doc.due("it ends before its semicolon", fault("12/34"), 5);
        Doc.due("it ends well", fault("12/34;"), NONE);
        Doc.due("it is full and ends too early", fault("1;".repeat(79) + "11"), 160);
        Doc.due("it is full and ends with a fault", fault("1;".repeat(79) + "1x"), 159);
        allShortTexts();
    }

    /** All texts of up to six signs of a few kinds, compared with the model, which tries regular expressions. */
    private static void allShortTexts() {
        String signs = "1/;x";
        for (int length = 0; length <= 6; length++) {
            for (int number = 0; number < 1 << (2 * length); number++) {
                Model model = new Model();
                StringBuilder text = new StringBuilder();
                for (int i = 0; i < length; i++) {
                    char sign = signs.charAt(number >> (2 * i) & 3);
                    text.append(sign);
                    model.append(sign);
                }
                Doc.due("\"" + text + "\"", fault(text.toString()), model.faultPosition());
            }
        }
    }

    // ---- trimming

    private static String box(SpriteAtlas a, int sprite) {
        return a.trimLeft(sprite) + "," + a.trimTop(sprite) + " " + a.trimWidth(sprite) + "x" + a.trimHeight(sprite);
    }

    private static void trimRectangles() {
        Doc.says("Trimming", "If trimming is on (as at first), the trim rectangle of a sprite is the smallest rectangle"
                + " that contains all its pixels that are not transparent;");
        for (int corners = 0; corners < 4096; corners++) {
            int left = corners & 7, top = corners >> 3 & 7, right = corners >> 6 & 7, bottom = corners >> 9;
            if (left <= right && top <= bottom) {
                char[] signs = ("00000000/".repeat(7) + "00000000;").toCharArray();
                boolean falling = (left + top) % 2 == 0;
                signs[9 * top + (falling ? left : right)] = '1';
                signs[9 * bottom + (falling ? right : left)] = '9';
                SpriteAtlas a = Check.with(new String(signs));
                Doc.due(new String(signs), box(a, 0), left + "," + top + " " + (right - left + 1) + "x"
                        + (bottom - top + 1));
            }
        }
        Doc.due("the whole image", box(Check.with(Check.image(8, 8, 1)), 0), "0,0 8x8");
        SpriteAtlas b = Check.with(Check.image(8, 2, 7));
        b.drop(0);
        Check.read(b, "100/000;");
        Doc.due("nothing of a dropped image counts", box(b, 0), "0,0 1x1");
    }

    private static void blankSprites() {
        Doc.says("Trimming", "a sprite without such pixels is blank, and has no trim rectangle.");
        SpriteAtlas a = Check.with("0;" + Check.image(8, 8, 0));
        for (int sprite = 0; sprite < 2; sprite++) {
            Doc.due("no rectangle", box(a, sprite), "-4,-4 0x0");
            a.print(sprite);
            Doc.due("print", Check.printed(a), sprite + ": blank");
        }
        a.setPixel(1, 7, 7, 1);
        Doc.due("one pixel is not transparent", box(a, 1), "7,7 1x1");
        a.setPixel(1, 7, 7, 0);
        Doc.due("blank again", box(a, 1), "-4,-4 0x0");
    }

    private static void wholeImages() {
        Doc.says("Trimming", "If trimming is off, the trim rectangle is the whole image, and no sprite is blank.");
        SpriteAtlas a = Check.with("0;00000000/00000100;" + "000/000/010/000;");
        a.setTrimming(false);
        Doc.due("a transparent one", box(a, 0), "0,0 1x1");
        Doc.due("of 8 x 2", box(a, 1), "0,0 8x2");
        Doc.due("of 3 x 4", box(a, 2), "0,0 3x4");
        Doc.due("all are packed", a.pack(), 0);
        Doc.due("the transparent one too", a.pageOf(0), 0);
        a.print(0);
        Doc.due("print", Check.printed(a), "0: page 0 at 0,0 size 1x1 record 0");
        a.setTrimming(true);
        Doc.due("trimming is on again", box(a, 0) + "; " + box(a, 1), "-4,-4 0x0; 5,1 1x1");
    }

    private static void trimmedImages() {
        Doc.says("Trimming", "The part of the image in the trim rectangle is the trimmed image.");
        SpriteAtlas a = Check.with("0000/0120/0304/0000;");
        a.setPageSize(4, 4);
        a.pack();
        Doc.due("it is on the page", Check.pixels(a, 0, 4, 4), "1200/3040/0000/0000");
        Doc.due("its size", box(a, 0), "1,1 3x2");
        Check.read(a, "120/304;000/120;");
        Doc.due("it is what is compared", a.originalOf(1), 0);
        Doc.due("it is what is compared", a.originalOf(2), NONE);
    }

    // ---- orientations and copies

    private static final String ORIENTED = "123/456;41/52/63;654/321;36/25/14;321/654;63/52/41;456/123;14/25/36;";

    private static String found(SpriteAtlas a, boolean originals) {
        StringBuilder text = new StringBuilder();
        for (int i = 0; i < a.sprites(); i++) {
            int n = originals ? a.originalOf(i) : a.orientationOf(i);
            text.append(n == NONE ? "-" : Integer.toString(n));
        }
        return text.toString();
    }

    private static void orientations() {
        Doc.says("Orientations", "Orientation q, 0 to 7, of an image is made as follows: if q is at least 4, the image is"
                + " mirrored, so that left and right are exchanged; then it is turned clockwise by 90 degrees q modulo"
                + " 4 times.");
        SpriteAtlas a = Check.with("123/456;" + ORIENTED);
        a.setMatching(SpriteAtlas.ANY);
        Doc.due("each orientation", found(a, false), "-01234567");
        SpriteAtlas b = Check.with("12345678;1/2/3/4/5/6/7/8;87654321;8/7/6/5/4/3/2/1;");
        b.setMatching(SpriteAtlas.ANY);
        Doc.due("of a row of 8", found(b, false), "-123");
        SpriteAtlas c = Check.with("12/30;31/02;03/21;20/13;21/03;02/31;30/12;13/20;");
        c.setMatching(SpriteAtlas.ANY);
        Doc.due("of a square", found(c, false), "-1234567");
    }

    private static void kindsOfMatching() {
        Doc.says("Orientations", "Matching is EXACT (at first), NEVER, TURNED or ANY.");
        SpriteAtlas a = Check.with("12/30;12/30;31/02;21/03;");
        Doc.due("EXACT", found(a, true), "-0--");
        Doc.due("at first", a.setMatching(SpriteAtlas.NEVER), SpriteAtlas.EXACT);
        Doc.due("NEVER", found(a, true), "----");
        a.setMatching(SpriteAtlas.TURNED);
        Doc.due("TURNED", found(a, true), "-00-");
        a.setMatching(SpriteAtlas.ANY);
        Doc.due("ANY", found(a, true), "-000");
        Doc.due("no other", a.setMatching(4), BAD);
        Doc.due("no other", a.setMatching(-1), BAD);
        Doc.due("as before", found(a, true), "-000");
    }

    private static void copies() {
        Doc.says("Orientations", "A sprite that is not blank is a copy of another one if the other one has a lower number"
                + " and is itself not blank and no copy, and if the trimmed image of the sprite is orientation q of the"
                + " trimmed image of the other one, for q = 0 by EXACT, for a q from 0 to 3 by TURNED, and for a q from"
                + " 0 to 7 by ANY.");
        SpriteAtlas a = Check.with("123/456;" + ORIENTED);
        Doc.due("q = 0 by EXACT, but not 1", found(a, true), "-0-------");
        a.setMatching(SpriteAtlas.TURNED);
        Doc.due("q = 3 by TURNED, but not 4, whose turns are copies of it", found(a, true), "-0000-555");
        a.setMatching(SpriteAtlas.ANY);
        Doc.due("q = 7 by ANY", found(a, true), "-00000000");
        SpriteAtlas b = Check.with("0;00;5;0/5;0;5;");
        Doc.due("blank ones have no copies", found(b, true), "---2-2");
        b.setTrimming(false);
        Doc.due("without trimming they have", found(b, true), "----02");
        SpriteAtlas c = Check.with("112;11/20;12;1122;11/22;");
        c.setMatching(SpriteAtlas.ANY);
        Doc.due("another size is no copy", found(c, true), "-----");
        for (String image : new String[] {"123/456", "12/34/56", "1/2/3/4/5/6/7/8", "12345678", "12/34"}) {
            onePixelOff(image);
        }
        SpriteAtlas e = Check.with(Check.image(8, 8, 9) + "12;1/2;012/345/000;30/41/52;");
        e.setMatching(SpriteAtlas.TURNED);
        Doc.due("what lies beside a trimmed image does not matter", found(e, true), "--1-3");
        SpriteAtlas d = Check.with("1;".repeat(24));
        Doc.due("the last of 24", d.originalOf(23), 0);
        d.setPixel(0, 0, 0, 2);
        Doc.due("only lower numbers", d.originalOf(0), NONE);
        Doc.due("the next one is the original then", d.originalOf(1) + ", " + d.originalOf(23), "-4, 1");
    }

    /** An image that differs in a single pixel, wherever it is, is no copy by any matching; the image itself is one. */
    private static void onePixelOff(String image) {
        SpriteAtlas a = Check.with(image + ";" + image + ";");
        for (int matching = SpriteAtlas.EXACT; matching <= SpriteAtlas.ANY; matching++) {
            a.setMatching(matching);
            Doc.due(image + ": itself", a.originalOf(1), 0);
            for (int i = 0; i < a.width(1) * a.height(1); i++) {
                int x = i % a.width(1), y = i / a.width(1);
                int color = a.setPixel(1, x, y, 9);
                Doc.due(image + ": another pixel " + x + ", " + y, a.originalOf(1), NONE);
                a.setPixel(1, x, y, color);
            }
        }
        Doc.due(image + ": itself again", a.originalOf(1), 0);
    }

    private static void lowestOriginal() {
        Doc.says("Orientations", "Its original is the lowest such other sprite.");
        SpriteAtlas a = Check.with("3;12;21;12;21;12;");
        Doc.due("by EXACT", found(a, true), "---121");
        a.setMatching(SpriteAtlas.TURNED);
        Doc.due("by TURNED", found(a, true), "--1111");
        a.drop(1);
        Doc.due("without the lowest one", found(a, true), "--111");
    }

    private static void neverCopies() {
        Doc.says("Orientations", "By NEVER there are no copies.");
        SpriteAtlas a = Check.with("1;1;1;");
        a.setMatching(SpriteAtlas.NEVER);
        Doc.due("originalOf", found(a, true), "---");
        Doc.due("orientationOf", found(a, false), "---");
        a.pack();
        Doc.due("each has its own place", Check.places(a), "0:0,0 0:1,0 0:2,0");
    }

    private static void originals() {
        Doc.says("Orientations", "A sprite that is neither blank nor a copy is an original.");
        SpriteAtlas a = Check.with("0;1;1;2;0;");
        Doc.due("originals", a.unplaced(), 2);
        Doc.due("a blank one", a.insert(0), NOT_POSSIBLE);
        Doc.due("a copy", a.insert(2), NOT_POSSIBLE);
        Doc.due("an original", a.insert(1), 0);
        Doc.due("an original", a.insert(3), 0);
        Doc.due("no more", a.unplaced(), 0);
    }
}
