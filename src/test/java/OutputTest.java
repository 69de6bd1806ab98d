/** Promises 54 to 58: print, printed, keep, restore, checksum. */
public final class OutputTest {
    private static final int BAD = SpriteAtlas.BAD_VALUE, NONE = SpriteAtlas.NONE;
    private static final int NOT_POSSIBLE = SpriteAtlas.NOT_POSSIBLE;

    public static void main(String[] args) {
        print();
        printTwoDigits();
        printed();
        keep();
        restore();
        slotsAreCopies();
        checksum();
        Check.finish();
    }

    private static void expect(SpriteAtlas a, int sprite, String want) {
        Check.due("54: print(" + sprite + ")", a.print(sprite), want.length());
        Check.due("54: what is printed", Check.printed(a), want);
    }

    private static void print() {
        SpriteAtlas a = Check.with("0012/0034;0;31/42;5;0/0/5;");
        a.setMatching(SpriteAtlas.TURNED);
        expect(a, 0, "0: unplaced");
        expect(a, 1, "1: blank");
        expect(a, 2, "2: unplaced copy of 0");
        a.pack();
        expect(a, 0, "0: page 0 at 0,0 size 2x2 record 0");
        expect(a, 1, "1: blank");
        expect(a, 2, "2: page 0 at 0,0 size 2x2 record 1 copy of 0");
        expect(a, 3, "3: page 0 at 2,0 size 1x1 record 0");
        expect(a, 4, "4: page 0 at 2,0 size 1x1 record 0 copy of 3");
        Check.due("54: no such sprite", a.print(5), BAD);
        Check.due("54: no such sprite", a.print(-1), BAD);
        Check.due("54: what was printed stays then", Check.printed(a), "4: page 0 at 2,0 size 1x1 record 0 copy of 3");
        a.setTrimming(false);
        expect(a, 1, "1: unplaced");
        a.setMatching(SpriteAtlas.NEVER);
        a.setMargins(0, 1, 2);
        a.setPageSize(11, 8);
        a.pack();
        expect(a, 0, "0: page 0 at 3,3 size 4x2 record 0");
    }

    private static void printTwoDigits() {
        SpriteAtlas a = new SpriteAtlas();
        a.setMatching(SpriteAtlas.NEVER);
        a.setPageSize(32, 32);
        a.setPageLimit(4);
        a.setMargins(3, 3, 2);
        Check.read(a, "1;".repeat(24));
        a.pack();
        expect(a, 23, "23: page 2 at 13,13 size 1x1 record 0");
        expect(a, 2, "2: page 0 at 21,5 size 1x1 record 0");
        a.setMatching(SpriteAtlas.EXACT);
        a.drop(0);
        a.setPixel(0, 0, 0, 0);
        a.pack();
        expect(a, 22, "22: page 0 at 5,5 size 1x1 record 0 copy of 1");
        for (int i = 1; i < 15; i++) {
            a.setPixel(i, 0, 0, 0);
        }
        expect(a, 22, "22: unplaced copy of 15");
        expect(a, 14, "14: blank");
    }

    private static void printed() {
        SpriteAtlas a = Check.with("0;");
        Check.due("55: nothing is printed", a.printed(0), NONE);
        Check.due("55: negative", a.printed(-1), BAD);
        Check.due("54: print(0)", a.print(0), 8);
        Check.due("55: printed(0)", a.printed(0), '0');
        Check.due("55: printed(7)", a.printed(7), 'k');
        Check.due("55: printed(8)", a.printed(8), NONE);
        Check.due("55: printed(2147483647)", a.printed(2147483647), NONE);
        Check.due("55: printed(-2147483648)", a.printed(-2147483648), BAD);
        a.drop(0);
        Check.due("55: what was printed stays", Check.printed(a), "0: blank");
    }

    private static void keep() {
        SpriteAtlas a = new SpriteAtlas();
        Check.due("56: slot -1", a.keep(-1), BAD);
        Check.due("56: slot 2", a.keep(2), BAD);
        Check.due("57: slot -1", a.restore(-1), BAD);
        Check.due("57: slot 2", a.restore(2), BAD);
        Check.due("57: an empty slot", a.restore(0), NOT_POSSIBLE);
        Check.due("56: nothing", a.keep(0), 0);
        Check.due("57: nothing", a.restore(0), 0);
        Check.due("57: the other slot", a.restore(1), NOT_POSSIBLE);
        Check.read(a, "1;2;");
        Check.due("56: two sprites", a.keep(1), 2);
        Check.due("56: is no change", a.undo(), 0);
        Check.due("57: slot 0 keeps nothing still", a.restore(0), 0);
        Check.due("57: slot 1", a.restore(1), 2);
        Check.read(a, "3;");
        Check.due("56: in place of what it kept", a.keep(1), 3);
        Check.due("57: that", a.restore(1), 3);
    }

    private static void restore() {
        SpriteAtlas a = Check.with("12;0;2/1;");
        a.setGroup(2, 3);
        a.setPageSize(9, 7);
        a.setPageLimit(3);
        a.setMargins(1, 2, 1);
        a.setMatching(SpriteAtlas.NEVER);
        a.setRotation(true);
        a.setGrouped(true);
        a.setOrder(SpriteAtlas.BY_SIDE);
        a.setWay(SpriteAtlas.LONG_SIDE);
        a.pack();
        a.unplace(0);
        long sum = a.checksum();
        int pages = a.pages();
        a.keep(0);
        a.setGroup(0, 1);
        a.setTrimming(false);
        a.setMatching(SpriteAtlas.ANY);
        a.setRotation(false);
        a.setGrouped(false);
        a.setOrder(SpriteAtlas.BY_AREA);
        a.setWay(SpriteAtlas.AREA);
        a.setMargins(0, 0, 0);
        a.setPageLimit(1);
        a.setPageSize(5, 5);
        a.drop(0);
        a.pack();
        a.print(0);
        Check.due("57: restore(0)", a.restore(0), 3);
        Check.due("57: the history is empty", a.undo(), NOT_POSSIBLE);
        Check.due("57: all is as it was kept", a.checksum(), sum);
        Check.due("57: the pages", a.pages(), pages);
        Check.due("57: the text stays", a.clearText(), 9);
        Check.due("57: what was printed stays", a.printed(0), '0');
        Check.due("57: an original can be placed again", a.insert(0), 0);
        Check.due("57: trimming", a.setTrimming(true), 1);
        Check.due("57: matching", a.setMatching(0), 0);
        Check.due("57: rotation", a.setRotation(true), 1);
        Check.due("57: grouped", a.setGrouped(true), 1);
        Check.due("57: order", a.setOrder(0), SpriteAtlas.BY_SIDE);
        Check.due("57: way", a.setWay(0), SpriteAtlas.LONG_SIDE);
        Check.due("57: margins", a.setMargins(0, 0, 0), 121);
        Check.due("57: page limit", a.setPageLimit(1), 3);
        Check.due("57: page size", a.setPageSize(4, 4), 907);
        Check.due("57: group", a.groupOf(0), 0);
        Check.due("57: group", a.groupOf(2), 3);
    }

    private static void slotsAreCopies() {
        SpriteAtlas a = Check.with("12;");
        a.keep(0);
        a.setPixel(0, 0, 0, 9);
        a.keep(1);
        a.restore(0);
        Check.due("56: the slot keeps the pixel that was", a.color(0, 0, 0), 1);
        a.setPixel(0, 0, 0, 5);
        a.restore(1);
        Check.due("56: each its own", a.color(0, 0, 0), 9);
        a.setPixel(0, 1, 0, 7);
        a.drop(0);
        a.restore(1);
        Check.due("57: the slot keeps it", a.color(0, 1, 0), 2);
        Check.due("57: and again", a.restore(1), 1);
    }

    private static void checksum() {
        SpriteAtlas a = Check.with("00/01;2;0;2;");
        a.setGroup(1, 2);
        a.setPageSize(4, 4);
        a.pack();
        a.unplace(1);
        int[] values = {4,
            2, 2, 0, 0, 0, 1, 0, 1, 1, 1, 1, NONE, NONE, 0, 0, 0, 0, 0,
            1, 1, 2, 2, 0, 0, 1, 1, NONE, NONE, NONE, NONE, NONE, NONE, NONE,
            1, 1, 0, 0, NONE, NONE, 0, 0, NONE, NONE, NONE, NONE, NONE, NONE, NONE,
            1, 1, 2, 0, 0, 0, 1, 1, 1, 0, NONE, NONE, NONE, NONE, NONE,
            1,
            1, 1, 2, 1, 0, 0, 0, 0, 0, 0, 0, 0, 0, 0, 0, 0, 0, 0, 0};
        long h = 19;
        for (int value : values) {
            h = 31 * h + value;
        }
        Check.due("58: checksum()", a.checksum(), h);
        Check.due("58: again", a.checksum(), h);
        a.append('1');
        a.print(0);
        a.keep(0);
        Check.due("58: text, output and slots are not in it", a.checksum(), h);
        a.setGroup(0, 1);
        Check.holds("58: a group is", a.checksum() != h);
    }
}
