/** Promises 34 to 38: where sprites are placed, and how they are restored from there. */
public final class PlacesTest {
    private static final int BAD = SpriteAtlas.BAD_VALUE, NONE = SpriteAtlas.NONE;

    public static void main(String[] args) {
        places();
        notPlaced();
        copies();
        records();
        recordsOfTurned();
        recordsOfMirrored();
        restoring();
        Check.finish();
    }

    private static void places() {
        SpriteAtlas a = Check.with("0000/0120;3;44444444/44444444;");
        a.setMargins(1, 2, 1);
        a.setPageSize(12, 12);
        a.pack();
        Check.due("34: pageOf(1)", a.pageOf(1), 0);
        Check.due("35: the column of the image, not of its box", a.xOf(0), 3);
        Check.due("36: the row of the image, not of its box", a.yOf(0), 3);
        Check.due("35: xOf(1)", a.xOf(1), 3 + 5);
        Check.due("36: yOf(1)", a.yOf(1), 3);
        Check.due("37: isTurned(0)", a.isTurned(0), 0);
        Check.due("34: too wide", a.pageOf(2), NONE);
        a.setMargins(0, 0, 0);
        a.pack();
        Check.due("35: without margins", a.xOf(0), 0);
        Check.due("36: without margins", a.yOf(0), 0);
        a.setPageSize(8, 4);
        a.setPageLimit(1);
        a.setRotation(true);
        a.setTrimming(false);
        a.pack();
        Check.due("34: on a full page", a.pageOf(2), NONE);
        a.setPageLimit(4);
        a.pack();
        Check.due("34: on another", a.pageOf(2), 1);
    }

    private static void notPlaced() {
        SpriteAtlas a = Check.with("12;0;12;");
        for (int round = 0; round < 2; round++) {
            for (int sprite = 0; sprite < 3; sprite++) {
                int want = round == 0 || sprite == 1 ? NONE : 0;
                Check.due("34: pageOf", a.pageOf(sprite), want);
                Check.due("35: xOf", a.xOf(sprite), want);
                Check.due("36: yOf", a.yOf(sprite), want);
                Check.due("37: isTurned", a.isTurned(sprite), want);
                Check.due("38: recordOf", a.recordOf(sprite), want);
            }
            a.pack();
        }
        for (int sprite : new int[] {-1, 3, 24, 2147483647}) {
            Check.due("34: pageOf", a.pageOf(sprite), BAD);
            Check.due("35: xOf", a.xOf(sprite), BAD);
            Check.due("36: yOf", a.yOf(sprite), BAD);
            Check.due("37: isTurned", a.isTurned(sprite), BAD);
            Check.due("38: recordOf", a.recordOf(sprite), BAD);
        }
    }

    private static void copies() {
        SpriteAtlas a = Check.with("9;12;2/1;");
        a.setMatching(SpriteAtlas.TURNED);
        a.setPageSize(4, 4);
        a.pack();
        Check.due("34: a copy has the page of its original", a.pageOf(2), 0);
        Check.due("35: and its column", a.xOf(2), a.xOf(1));
        Check.due("36: and its row", a.yOf(2), a.yOf(1));
        Check.due("37: and is turned as that is", a.isTurned(2), a.isTurned(1));
        Check.due("35: which is this", a.xOf(1), 1);
        Check.read(a, "12;");
        Check.due("34: a copy that is added is placed", a.pageOf(3), 0);
        a.unplace(1);
        Check.due("34: as long as its original is", a.pageOf(3), NONE);
        Check.due("34: so the first one", a.pageOf(2), NONE);
        a.insert(1);
        Check.due("34: again", a.pageOf(3), 0);
    }

    private static void records() {
        SpriteAtlas a = Check.with("123/456;41/52/63;654/321;36/25/14;321/654;63/52/41;456/123;14/25/36;77/70;77/07;");
        a.setMatching(SpriteAtlas.ANY);
        a.pack();
        for (int q = 0; q < 8; q++) {
            Check.due("38: recordOf(" + q + ")", a.recordOf(q), q);
        }
        Check.due("38: an original", a.recordOf(8), 0);
        Check.due("38: the smallest of two", a.recordOf(9), 1);
        a.setMatching(SpriteAtlas.NEVER);
        a.pack();
        for (int sprite = 0; sprite < a.sprites(); sprite++) {
            Check.due("38: without copies", a.recordOf(sprite), 0);
        }
    }

    /** On a page 4 wide, 5 wide images are turned. */
    private static void recordsOfTurned() {
        SpriteAtlas a = Check.with("12345;12345;5/4/3/2/1;54321;0012345;1/2/3/4/5;11111;2/2/2/2/2;");
        a.setRotation(true);
        a.setMatching(SpriteAtlas.TURNED);
        a.setPageSize(4, 10);
        a.pack();
        Check.due("37: turned", a.isTurned(0), 1);
        Check.due("37: a copy of a turned one", a.isTurned(3), 1);
        Check.due("38: a turned original is turned back", a.recordOf(0), 3);
        Check.due("38: its exact copy too", a.recordOf(1), 3);
        // 12345 turned is the column 1/2/3/4/5.
        Check.due("38: the column as it is placed", a.recordOf(5), 0);
        Check.due("38: the column upside down", a.recordOf(2), 2);
        Check.due("38: the row from behind", a.recordOf(3), 1);
        Check.due("38: of one that is trimmed", a.recordOf(4), 3);
        Check.due("37: of one color", a.isTurned(6), 1);
        Check.due("38: the smallest of those that do", a.recordOf(6), 1);
        Check.due("37: a column", a.isTurned(7), 0);
        Check.due("38: a column", a.recordOf(7), 0);
    }

    /** All orientations of an image that is placed turned. */
    private static void recordsOfMirrored() {
        SpriteAtlas a = Check.with("12345/60000;61/02/03/04/05;");
        Check.read(a, "00006/54321;50/40/30/20/16;54321/00006;05/04/03/02/61;60000/12345;16/20/30/40/50;");
        a.setMatching(SpriteAtlas.ANY);
        a.setRotation(true);
        a.setPageSize(4, 10);
        a.pack();
        Check.due("37: turned", a.isTurned(0), 1);
        int[] records = {3, 0, 1, 2, 5, 6, 7, 4};
        for (int q = 0; q < 8; q++) {
            Check.due("20: orientationOf(" + q + ")", a.orientationOf(q), q == 0 ? NONE : q);
            Check.due("38: recordOf(" + q + ")", a.recordOf(q), records[q]);
        }
    }

    private static SpriteAtlas manyPlaced() {
        SpriteAtlas a = new SpriteAtlas();
        a.setMatching(SpriteAtlas.ANY);
        a.setRotation(true);
        a.setWay(SpriteAtlas.LONG_SIDE);
        a.setMargins(1, 1, 1);
        a.setPageLimit(4);
        a.setPageSize(24, 20);
        Check.read(a, "123/450;03/25/14;054/321;15/42/03;");
        for (int seed = 1; seed <= 5; seed++) {
            a.draw(seed, 4);
        }
        Check.due("30: pack()", a.pack(), 0);
        return a;
    }

    /** The record of each sprite does what it is for: it makes the sprite of the pixels of the page. */
    private static void restoring() {
        for (int sprite = 0; sprite < 24; sprite++) {
            SpriteAtlas a = manyPlaced();
            int source = a.originalOf(sprite) == NONE ? sprite : a.originalOf(sprite);
            if (a.trimWidth(sprite) > 0) {
                boolean turned = a.isTurned(sprite) == 1;
                int wide = turned ? a.trimHeight(source) : a.trimWidth(source);
                int high = turned ? a.trimWidth(source) : a.trimHeight(source);
                int[][] placed = new int[high][wide];
                for (int y = 0; y < high; y++) {
                    for (int x = 0; x < wide; x++) {
                        placed[y][x] = a.pixel(a.pageOf(sprite), a.xOf(sprite) + x, a.yOf(sprite) + y);
                    }
                }
                compareTrimmed(a, sprite, Model.orient(placed, a.recordOf(sprite)));
            }
        }
    }

    private static void compareTrimmed(SpriteAtlas a, int sprite, int[][] image) {
        Check.due("38: height", image.length, a.trimHeight(sprite));
        Check.due("38: width", image[0].length, a.trimWidth(sprite));
        for (int y = 0; y < image.length; y++) {
            for (int x = 0; x < image[0].length; x++) {
                Check.due("38: pixel", image[y][x], a.color(sprite, a.trimLeft(sprite) + x, a.trimTop(sprite) + y));
            }
        }
    }
}
