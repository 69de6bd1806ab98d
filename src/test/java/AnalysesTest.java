/** Promises 50 to 53: unplaced, pageBound, bestMethod, smallestPage. */
public final class AnalysesTest {
    private static final int NONE = SpriteAtlas.NONE;

    public static void main(String[] args) {
        unplaced();
        pageBound();
        pageBoundWithoutField();
        bestMethodOfNothing();
        bestMethod();
        bestMethodOfGroups();
        smallestPage();
        smallestPageOfNothing();
        noSmallestPage();
        nothingIsChanged();
        Check.finish();
    }

    private static void unplaced() {
        SpriteAtlas a = new SpriteAtlas();
        Check.due("50: without sprites", a.unplaced(), 0);
        Check.read(a, "1;0;1;22;" + Check.image(8, 8, 3));
        Check.due("50: before packing", a.unplaced(), 3);
        a.setPageSize(8, 4);
        Check.due("50: after a change", a.unplaced(), 3);
        a.pack();
        Check.due("50: too high a sprite", a.unplaced(), 1);
        a.unplace(0);
        Check.due("50: removed", a.unplaced(), 2);
        a.insert(0);
        Check.due("50: inserted", a.unplaced(), 1);
        Check.read(a, "4;1;");
        Check.due("50: added", a.unplaced(), 2);
    }

    private static void pageBound() {
        SpriteAtlas a = new SpriteAtlas();
        Check.due("51: without sprites", a.pageBound(), 0);
        Check.read(a, "0;");
        Check.due("51: blank", a.pageBound(), 0);
        a.setPageSize(4, 4);
        Check.read(a, Check.image(4, 4, 1) + Check.image(4, 4, 1));
        Check.due("51: just full", a.pageBound(), 1);
        Check.read(a, "2;");
        Check.due("51: one more", a.pageBound(), 2);
        a.pack();
        Check.due("51: packed or not", a.pageBound(), 2);
        a.setMatching(SpriteAtlas.NEVER);
        Check.due("51: without copies", a.pageBound(), 3);
        a.setMatching(SpriteAtlas.EXACT);
        // boxes 7 * 7 + 4 * 4 = 65, the field 7 * 7 = 49
        a.setMargins(3, 0, 0);
        Check.due("51: padding", a.pageBound(), 2);
        // boxes 9 * 9 + 6 * 6 = 117, the field 5 * 5 = 25
        a.setMargins(3, 1, 1);
        Check.due("51: all margins", a.pageBound(), 5);
        // boxes 8 * 8 + 5 * 5 = 89, the field 2 * 2 = 4
        a.setMargins(0, 1, 2);
        Check.due("51: more than the limit of pages", a.pageBound(), 23);
        SpriteAtlas b = Check.with("0000/0110;");
        b.setPageSize(4, 4);
        b.setTrimming(false);
        Check.read(b, Check.image(4, 2, 3) + "5;");
        Check.due("51: whole images", b.pageBound(), 2);
        b.setTrimming(true);
        Check.due("51: trimmed images", b.pageBound(), 1);
    }

    private static void pageBoundWithoutField() {
        SpriteAtlas a = new SpriteAtlas();
        a.setPageSize(4, 8);
        a.setMargins(0, 2, 0);
        Check.due("51: without sprites", a.pageBound(), 0);
        Check.read(a, "0;");
        Check.due("51: blank", a.pageBound(), 0);
        Check.read(a, "1;");
        Check.due("51: no column", a.pageBound(), NONE);
        a.setPageSize(8, 4);
        Check.due("51: no row", a.pageBound(), NONE);
        a.setPageSize(4, 4);
        a.setMargins(0, 3, 0);
        Check.due("51: less than none of both", a.pageBound(), NONE);
        a.setMargins(1, 2, 0);
        Check.due("51: one position", a.pageBound(), 4);
    }

    private static void bestMethodOfNothing() {
        SpriteAtlas a = new SpriteAtlas();
        Check.due("52: without sprites", a.bestMethod(), 0);
        a.setOrder(SpriteAtlas.BY_SIDE);
        a.setWay(SpriteAtlas.AREA);
        Check.due("52: whatever is set now", a.bestMethod(), 0);
        Check.read(a, "1;0;");
        Check.due("52: one sprite", a.bestMethod(), 0);
    }

    private static void bestMethod() {
        SpriteAtlas a = Check.with(Check.image(3, 3, 1) + Check.image(2, 4, 2) + Check.image(2, 4, 3));
        a.setPageSize(4, 4);
        a.setPageLimit(1);
        Check.due("30: the first one takes the place of two", a.pack(), 2);
        Check.due("52: fewest are not placed", a.bestMethod(), 10 * SpriteAtlas.BY_SIDE + SpriteAtlas.SHORT_SIDE);
        a.setPageLimit(2);
        Check.due("52: no method is better than the first", a.bestMethod(), 0);
        // By SHORT_SIDE the second one lies where the third one should.
        SpriteAtlas b = Check.with(Check.image(2, 2, 1) + "2/2;" + Check.image(4, 2, 3));
        b.setPageSize(4, 4);
        b.pack();
        Check.due("39: two pages", b.pages(), 2);
        Check.due("52: fewest pages", b.bestMethod(), 10 * SpriteAtlas.BY_NUMBER + SpriteAtlas.LONG_SIDE);
        for (int seed = 1; seed <= 12; seed++) {
            compareWithTrials(seed);
        }
    }

    /** Packs with all sixteen methods through the public face. */
    private static void compareWithTrials(int seed) {
        SpriteAtlas a = new SpriteAtlas();
        a.setRotation(seed % 2 == 0);
        a.setPageSize(7 + seed % 4, 6 + seed % 3);
        a.setMargins(seed % 3 % 2, seed % 2, 0);
        a.setPageLimit(2 + seed % 3);
        a.draw(seed, 8);
        a.draw(seed + 50, seed % 8 + 1);
        for (int sprite = 0; sprite < a.sprites(); sprite++) {
            a.setGroup(sprite, sprite % 3);
        }
        a.setGrouped(seed % 3 == 0);
        int answer = a.bestMethod();
        long least = Long.MAX_VALUE;
        int best = -1;
        for (int method = 0; method < 16; method++) {
            a.setOrder(method / 4);
            a.setWay(method % 4);
            long cost = a.pack() * 1000000L + a.pages() * 100000L;
            for (int page = 0; page < a.pages(); page++) {
                cost += a.usedWidth(page) * a.usedHeight(page);
            }
            if (cost < least) {
                least = cost;
                best = 10 * (method / 4) + method % 4;
            }
        }
        Check.due("52: bestMethod() with seed " + seed, answer, best);
    }

    private static void bestMethodOfGroups() {
        SpriteAtlas a = Check.with(Check.image(4, 1, 1) + Check.image(4, 2, 2) + Check.image(2, 1, 3));
        a.setPageSize(4, 4);
        a.setPageLimit(1);
        a.setGroup(0, 1);
        Check.due("52: all fit in any order", a.bestMethod(), 0);
        a.setGrouped(true);
        Check.due("30: group 1 has the only page", a.pack(), 2);
        Check.due("52: by area group 0 has it", a.bestMethod(), 10);
    }

    private static void smallestPage() {
        SpriteAtlas a = Check.with(Check.image(8, 1, 1));
        Check.due("53: as wide as the sprite", a.smallestPage(), 8);
        a.setRotation(true);
        Check.due("53: turned", a.smallestPage(), 8);
        a.setMargins(3, 2, 1);
        Check.due("53: with border and extrusion, without padding", a.smallestPage(), 8 + 2 + 4);
        a.setMargins(0, 0, 0);
        Check.read(a, "2;");
        Check.due("53: one more fits", a.smallestPage(), 8);
        SpriteAtlas b = Check.with("1;");
        Check.due("53: the least", b.smallestPage(), 4);
        b.setMargins(0, 3, 0);
        Check.due("53: with a border", b.smallestPage(), 7);
        SpriteAtlas c = Check.with(Check.image(4, 4, 1) + Check.image(4, 4, 2) + Check.image(4, 4, 3)
                + Check.image(4, 4, 4));
        c.setPageSize(4, 32);
        c.setPageLimit(1);
        Check.due("53: four squares", c.smallestPage(), 8);
        c.setPageLimit(4);
        Check.due("53: one page only", c.smallestPage(), 8);
        c.setGroup(1, 1);
        c.setGrouped(true);
        Check.due("53: grouped being off", c.smallestPage(), 8);
        c.setMargins(1, 0, 0);
        Check.due("53: padding between them", c.smallestPage(), 9);
        // Rotation lets a column lie in the row that a wide one leaves over.
        SpriteAtlas d = Check.with(Check.image(5, 4, 1) + "2/2/2/2/2;");
        Check.due("53: upright", d.smallestPage(), 6);
        d.setRotation(true);
        Check.due("53: with rotation", d.smallestPage(), 5);
    }

    private static void smallestPageOfNothing() {
        SpriteAtlas a = new SpriteAtlas();
        Check.due("53: without sprites", a.smallestPage(), 4);
        Check.read(a, "0;");
        a.setMargins(0, 3, 2);
        Check.due("53: without originals, though there is no field", a.smallestPage(), 4);
    }

    private static void noSmallestPage() {
        SpriteAtlas a = new SpriteAtlas();
        a.setMatching(SpriteAtlas.NEVER);
        Check.text(a, Check.image(8, 8, 1));
        for (int i = 0; i < 9; i++) {
            a.read();
        }
        Check.due("53: nine squares", a.smallestPage(), 24);
        a.setMargins(0, 1, 1);
        Check.due("53: the greatest", a.smallestPage(), 32);
        a.setMargins(1, 1, 1);
        Check.due("53: just too much", a.smallestPage(), NONE);
        a.setMargins(3, 0, 2);
        Check.due("53: too much around them", a.smallestPage(), NONE);
        a.drop(0);
        a.drop(0);
        a.drop(0);
        a.drop(0);
        a.drop(0);
        Check.due("53: four of them", a.smallestPage(), 27);
    }

    private static void nothingIsChanged() {
        SpriteAtlas a = new SpriteAtlas();
        a.draw(3, 8);
        a.setGroup(2, 2);
        a.setPageSize(9, 9);
        a.setGrouped(true);
        a.setWay(SpriteAtlas.AREA);
        a.setOrder(SpriteAtlas.BY_SIDE);
        a.pack();
        a.unplace(a.pageOf(0) == 0 ? 0 : 1);
        long before = a.checksum();
        int method = a.bestMethod();
        int side = a.smallestPage();
        a.unplaced();
        a.pageBound();
        Check.due("52: nothing is changed", a.checksum(), before);
        Check.due("52: the same again", a.bestMethod(), method);
        Check.due("53: the same again", a.smallestPage(), side);
        Check.due("52: no change", a.undo(), 4);
        Check.due("52: the way is as it was", a.setWay(SpriteAtlas.AREA), SpriteAtlas.AREA);
        Check.due("52: the order is as it was", a.setOrder(SpriteAtlas.BY_SIDE), SpriteAtlas.BY_SIDE);
        Check.due("53: so is the size", a.setPageSize(9, 9), 909);
        Check.due("53: and the limit", a.setPageLimit(2), 2);
        Check.due("53: and grouped", a.setGrouped(true), 1);
    }
}
