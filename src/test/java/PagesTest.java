/** Promises 39 to 49: the pages, their pixels, their free rectangles and how full they are. */
public final class PagesTest {
    private static final int BAD = SpriteAtlas.BAD_VALUE, NONE = SpriteAtlas.NONE;

    public static void main(String[] args) {
        pages();
        pixels();
        extrudedPixels();
        turnedPixels();
        owners();
        used();
        usedIgnoresPadding();
        freeRectangles();
        freeRectanglesOfSquares();
        manyFreeRectangles();
        freeInTheField();
        noSuchThing();
        fill();
        Check.finish();
    }

    private static void pages() {
        SpriteAtlas a = Check.with("1111/1111/1111/1111;2222/2222/2222/2222;");
        Check.due("39: at first", a.pages(), 0);
        a.setPageSize(4, 4);
        a.pack();
        Check.due("39: two", a.pages(), 2);
        a.unplace(1);
        Check.due("39: an empty one counts", a.pages(), 2);
        a.setWay(0);
        Check.due("39: an empty atlas", a.pages(), 0);
    }

    private static void pixels() {
        SpriteAtlas a = Check.with("1234/5678;0000/0900/0808;7;");
        a.setPageSize(8, 5);
        a.pack();
        Check.due("40: the page", Check.pixels(a, 0, 8, 5), "12349007/56788080/00000000/00000000/00000000");
        a.setMargins(1, 1, 0);
        a.pack();
        Check.due("40: with margins", Check.pixels(a, 0, 8, 5), "00000000/01234070/05678000/00000000/00000000");
        a.setTrimming(false);
        a.setMargins(0, 0, 0);
        a.pack();
        Check.due("40: whole images", Check.pixels(a, 0, 8, 5), "12340000/56780900/00000808/70000000/00000000");
    }

    private static void extrudedPixels() {
        SpriteAtlas a = Check.with("12/34/56;");
        a.setMargins(0, 1, 2);
        a.setPageSize(8, 9);
        a.pack();
        Check.due("40: extruded by 2", Check.pixels(a, 0, 8, 9), "00000000/01112220/01112220/01112220/03334440/"
                + "05556660/05556660/05556660/00000000");
        a.setMargins(3, 0, 1);
        a.pack();
        Check.due("40: extruded by 1", Check.pixels(a, 0, 8, 9), "11220000/11220000/33440000/55660000/55660000/"
                + "00000000/00000000/00000000/00000000");
        SpriteAtlas b = Check.with("101;");
        b.setMargins(0, 0, 1);
        b.setPageSize(5, 4);
        b.pack();
        Check.due("40: transparent pixels too", Check.pixels(b, 0, 5, 4), "11011/11011/11011/00000");
    }

    private static void turnedPixels() {
        SpriteAtlas a = Check.with("12345/67890;");
        a.setRotation(true);
        a.setPageSize(4, 8);
        a.pack();
        Check.due("40: turned clockwise", Check.pixels(a, 0, 4, 8), "6100/7200/8300/9400/0500/0000/0000/0000");
        a.setMargins(0, 0, 1);
        a.pack();
        Check.due("40: turned and extruded", Check.pixels(a, 0, 4, 8), "6611/6611/7722/8833/9944/0055/0055/0000");
    }

    private static void owners() {
        SpriteAtlas a = Check.with("0;12/30;12/30;4;");
        a.setMargins(1, 1, 1);
        a.setPageSize(11, 6);
        a.pack();
        StringBuilder owners = new StringBuilder();
        for (int y = 0; y < 6; y++) {
            for (int x = 0; x < 11; x++) {
                int owner = a.spriteAt(0, x, y);
                owners.append(owner == NONE ? "-" : Integer.toString(owner));
            }
            owners.append('/');
        }
        Check.due("41: owners", owners.toString(), "-----------/-1111-333--/-1111-333--/-1111-333--/-1111------/"
                + "-----------/");
        a.unplace(1);
        Check.due("41: none is left there", a.spriteAt(0, 1, 1), NONE);
        a.setGroup(1, 1);
        Check.due("41: the other is", a.spriteAt(0, 6, 1), 3);
    }

    private static void used() {
        SpriteAtlas a = Check.with("11111/11111;222/222/222;3333333;");
        a.setPageLimit(4);
        a.setPageSize(9, 7);
        a.pack();
        Check.due("42: usedWidth(0)", a.usedWidth(0), 8);
        Check.due("43: usedHeight(0)", a.usedHeight(0), 4);
        a.setMargins(0, 1, 0);
        a.pack();
        Check.due("34: places", Check.places(a), "0:1,1 0:1,3 1:1,1");
        Check.due("42: with a border", a.usedWidth(0), 5 + 2);
        Check.due("43: with a border", a.usedHeight(0), 2 + 3 + 2);
        Check.due("42: of page 1", a.usedWidth(1), 7 + 2);
        Check.due("43: of page 1", a.usedHeight(1), 1 + 2);
        a.unplace(0);
        Check.due("42: without the first", a.usedWidth(0), 3 + 2);
        a.unplace(1);
        a.unplace(2);
        Check.due("42: empty", a.usedWidth(0), 2);
        Check.due("43: empty", a.usedHeight(0), 2);
        a.setMargins(2, 1, 1);
        a.setPageSize(20, 20);
        a.pack();
        a.unplace(1);
        a.unplace(2);
        Check.due("42: border, extrusion, image, extrusion, border", a.usedWidth(0), 1 + 1 + 5 + 1 + 1);
        Check.due("43: border, extrusion, image, extrusion, border", a.usedHeight(0), 1 + 1 + 2 + 1 + 1);
        a.setMargins(0, 0, 0);
        a.pack();
        a.unplace(0);
        a.unplace(1);
        a.unplace(2);
        Check.due("42: empty without a border", a.usedWidth(0), 0);
        Check.due("43: empty without a border", a.usedHeight(0), 0);
    }

    private static void usedIgnoresPadding() {
        SpriteAtlas a = Check.with("1234/1234/1234/1234;");
        a.setMargins(3, 0, 0);
        a.setPageSize(4, 4);
        Check.due("30: the padding may lie outside the page", a.pack(), 0);
        Check.due("42: a full page", a.usedWidth(0), 4);
        Check.due("43: a full page", a.usedHeight(0), 4);
        Check.due("44: nothing is free", a.freeRectangles(0), 0);
        Check.due("45: no rectangle", a.freeX(0, 0), BAD);
    }

    private static void freeRectangles() {
        SpriteAtlas a = Check.with("11/11;2;");
        a.setPageSize(5, 4);
        a.setWay(SpriteAtlas.LONG_SIDE);
        a.pack();
        Check.due("34: places", Check.places(a), "0:0,0 0:2,0");
        Check.due("44: of an L and a step", Check.free(a, 0), "3,0 2x4; 2,1 3x3; 0,2 5x2");
        a.unplace(0);
        Check.due("44: around a box at the edge", Check.free(a, 0), "0,0 2x4; 3,0 2x4; 0,1 5x3");
        a.unplace(1);
        Check.due("44: of an empty page", Check.free(a, 0), "0,0 5x4");
        Check.due("44: one", a.freeRectangles(0), 1);
    }

    /** Also of two free rectangles with one upper left corner: the narrower one comes first. */
    private static void freeRectanglesOfSquares() {
        SpriteAtlas a = Check.with("11/11;22/22;33/33;");
        a.setPageSize(4, 4);
        a.setWay(SpriteAtlas.TOP_LEFT);
        a.pack();
        Check.due("34: places", Check.places(a), "0:0,0 0:2,0 0:0,2");
        Check.due("44: one corner is left", Check.free(a, 0), "2,2 2x2");
        a.unplace(0);
        Check.due("44: two corners are left", Check.free(a, 0), "0,0 2x2; 2,2 2x2");
        a.unplace(2);
        Check.due("44: an L", Check.free(a, 0), "0,0 2x4; 0,2 4x2");
        a.undo();
        a.undo();
        a.unplace(2);
        a.unplace(1);
        Check.due("44: another L", Check.free(a, 0), "2,0 2x4; 0,2 4x2");
        a.insert(2);
        a.unplace(0);
        a.undo();
        Check.due("34: after undo()", Check.places(a), "0:0,0 - 0:2,0");
        Check.due("44: after undo()", Check.free(a, 0), "0,2 4x2");
        SpriteAtlas b = Check.with("11/11;22/22;33/33;44/44;");
        b.setPageSize(4, 4);
        b.pack();
        b.unplace(0);
        b.unplace(1);
        b.unplace(2);
        Check.due("34: places", Check.places(b), "- - - 0:2,2");
        Check.due("44: narrow before wide", Check.free(b, 0), "0,0 2x4; 0,0 4x2");
    }

    /** A page with holes: the rectangles are those of the model's slow search. */
    private static void manyFreeRectangles() {
        Model model = new Model();
        SpriteAtlas a = new SpriteAtlas();
        String text = "11/11;22/22;3/3/3;444;5;66;7/7;888/888;9;12;21;13;31;14;41;15;51;16;61;17;71;18;81;19;";
        for (char c : text.toCharArray()) {
            a.append(c);
            model.append(c);
        }
        Check.due("5: read()", a.read(), model.read());
        a.setPageSize(32, 32);
        model.setPageSize(32, 32);
        a.setMargins(3, 0, 1);
        model.setMargins(3, 0, 1);
        a.pack();
        model.pack();
        for (int sprite = 0; sprite < 24; sprite += 2) {
            a.unplace(sprite);
            model.unplace(sprite);
        }
        Check.due("44: many", a.freeRectangles(0), model.freeRectangles(0));
        for (int i = -1; i <= model.freeRectangles(0); i++) {
            Check.due("45: freeX", a.freeX(0, i), model.freeX(0, i));
            Check.due("46: freeY", a.freeY(0, i), model.freeY(0, i));
            Check.due("47: freeWidth", a.freeWidth(0, i), model.freeWidth(0, i));
            Check.due("48: freeHeight", a.freeHeight(0, i), model.freeHeight(0, i));
        }
    }

    /** Free rectangles are told in positions of the field, which the border moves and the padding enlarges. */
    private static void freeInTheField() {
        SpriteAtlas a = Check.with("1;");
        a.setMargins(2, 1, 0);
        a.setPageSize(6, 5);
        a.pack();
        Check.due("44: with border and padding", Check.free(a, 0), "3,0 3x5; 0,3 6x2");
        a.setMargins(0, 1, 1);
        a.setPageSize(5, 5);
        a.pack();
        Check.due("44: the box has the whole field", a.freeRectangles(0), 0);
        a.unplace(0);
        Check.due("44: the field", Check.free(a, 0), "0,0 3x3");
    }

    private static void noSuchThing() {
        SpriteAtlas a = Check.with("1;");
        Check.due("40: no page", a.pixel(0, 0, 0), BAD);
        Check.due("42: no page", a.usedWidth(0), BAD);
        a.setPageSize(7, 5);
        a.pack();
        for (int page : new int[] {-1, 1, 4, 2147483647, -2147483648}) {
            Check.due("40: pixel", a.pixel(page, 0, 0), BAD);
            Check.due("41: spriteAt", a.spriteAt(page, 0, 0), BAD);
            Check.due("42: usedWidth", a.usedWidth(page), BAD);
            Check.due("43: usedHeight", a.usedHeight(page), BAD);
            Check.due("44: freeRectangles", a.freeRectangles(page), BAD);
            Check.due("45: freeX", a.freeX(page, 0), BAD);
            Check.due("46: freeY", a.freeY(page, 0), BAD);
            Check.due("47: freeWidth", a.freeWidth(page, 0), BAD);
            Check.due("48: freeHeight", a.freeHeight(page, 0), BAD);
            Check.due("49: fill", a.fill(page, false), BAD);
            Check.due("49: fill", a.fill(page, true), BAD);
        }
        for (int[] at : new int[][] {{-1, 0}, {0, -1}, {7, 0}, {0, 5}, {2147483647, 0}, {0, -2147483648}}) {
            Check.due("40: pixel", a.pixel(0, at[0], at[1]), BAD);
            Check.due("41: spriteAt", a.spriteAt(0, at[0], at[1]), BAD);
        }
        Check.due("40: the last pixel", a.pixel(0, 6, 4), 0);
        Check.due("41: the last pixel", a.spriteAt(0, 6, 4), NONE);
        for (int index : new int[] {-1, 2, 400, 2147483647}) {
            Check.due("45: freeX", a.freeX(0, index), BAD);
            Check.due("46: freeY", a.freeY(0, index), BAD);
            Check.due("47: freeWidth", a.freeWidth(0, index), BAD);
            Check.due("48: freeHeight", a.freeHeight(0, index), BAD);
        }
    }

    private static void fill() {
        SpriteAtlas a = Check.with("0000/0120;");
        a.setPageSize(4, 4);
        a.setMargins(0, 0, 1);
        a.pack();
        Check.due("49: without extrusion", a.fill(0, false), 1);
        Check.due("49: in lowest terms", a.fill(0, true), 8);
        a.unplace(0);
        Check.due("49: nothing", a.fill(0, false), 0);
        Check.due("49: is 0 / 1", a.fill(0, true), 1);
        a.setTrimming(false);
        a.setMargins(0, 0, 0);
        a.pack();
        Check.due("49: whole images", a.fill(0, false), 1);
        Check.due("49: whole images", a.fill(0, true), 2);
        SpriteAtlas b = Check.with("1111/1111/1111/1101;1111/1111/1111/1101;");
        b.setPageSize(4, 4);
        b.pack();
        Check.due("49: all, with transparent pixels", b.fill(0, false), 1);
        Check.due("49: all", b.fill(0, true), 1);
        b.setPageSize(5, 7);
        b.pack();
        Check.due("49: nothing in common", b.fill(0, false), 16);
        Check.due("49: nothing in common", b.fill(0, true), 35);
    }
}
