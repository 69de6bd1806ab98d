/** Compares answers with those that are due, and ends the test. */
final class Check {
    private static int compared = 0;
    private static int wrong = 0;

    private Check() {
    }

    static void due(String what, long got, long want) {
        compared++;
        if (got != want) {
            wrong++;
            System.out.println(what + " answered " + got + ", due is " + want);
        }
    }

    static void due(String what, String got, String want) {
        compared++;
        if (!got.equals(want)) {
            wrong++;
            System.out.println(what + " answered \"" + got + "\", due is \"" + want + "\"");
        }
    }

    static void holds(String what, boolean held) {
        due(what, held ? 1 : 0, 1);
    }

    static boolean hasFailed() {
        return wrong > 0;
    }

    static void finish() {
        System.out.println(wrong == 0 ? compared + " answers are as due" : wrong + " answers are not as due");
        if (wrong != 0) {
            System.exit(1);
        }
    }

    // ---- shorthands for runs of calls

    static void text(SpriteAtlas atlas, String text) {
        atlas.clearText();
        for (int i = 0; i < text.length(); i++) {
            atlas.append(text.charAt(i));
        }
    }

    /** Reads sprites from a text; answers what read() does. */
    static int read(SpriteAtlas atlas, String text) {
        text(atlas, text);
        return atlas.read();
    }

    static SpriteAtlas with(String text) {
        SpriteAtlas atlas = new SpriteAtlas();
        read(atlas, text);
        return atlas;
    }

    static String printed(SpriteAtlas atlas) {
        StringBuilder all = new StringBuilder();
        int code = atlas.printed(0);
        for (int i = 1; code != SpriteAtlas.NONE; i++) {
            all.append((char) code);
            code = atlas.printed(i);
        }
        return all.toString();
    }

    /** The text of an image of one color. */
    static String image(int wide, int high, int color) {
        String row = Integer.toString(color).repeat(wide);
        return row + ("/" + row).repeat(high - 1) + ";";
    }

    /** All places, as "page:x,y" with a t if turned, "-" for what is not placed. */
    static String places(SpriteAtlas atlas) {
        StringBuilder all = new StringBuilder();
        for (int i = 0; i < atlas.sprites(); i++) {
            if (i > 0) {
                all.append(' ');
            }
            if (atlas.pageOf(i) == SpriteAtlas.NONE) {
                all.append('-');
            } else {
                all.append(atlas.pageOf(i)).append(':').append(atlas.xOf(i)).append(',').append(atlas.yOf(i));
                all.append(atlas.isTurned(i) == 1 ? "t" : "");
            }
        }
        return all.toString();
    }

    /** The free rectangles of a page, as "x,y wxh" with semicolons between. */
    static String free(SpriteAtlas atlas, int page) {
        StringBuilder all = new StringBuilder();
        for (int i = 0; i < atlas.freeRectangles(page); i++) {
            if (i > 0) {
                all.append("; ");
            }
            all.append(atlas.freeX(page, i)).append(',').append(atlas.freeY(page, i)).append(' ');
            all.append(atlas.freeWidth(page, i)).append('x').append(atlas.freeHeight(page, i));
        }
        return all.toString();
    }

    /** The pixels of a page, a row after another with slashes between. */
    static String pixels(SpriteAtlas atlas, int page, int wide, int high) {
        StringBuilder all = new StringBuilder();
        for (int y = 0; y < high; y++) {
            if (y > 0) {
                all.append('/');
            }
            for (int x = 0; x < wide; x++) {
                all.append(atlas.pixel(page, x, y));
            }
        }
        return all.toString();
    }
}
