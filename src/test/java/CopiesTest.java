/** Promises 15 to 20: trim rectangles, originals and copies. */
public final class CopiesTest {
    private static final int BAD = SpriteAtlas.BAD_VALUE, NONE = SpriteAtlas.NONE;

    public static void main(String[] args) {
        trim("100;", 0, 0, 1, 1);
        trim("00000000/00000000/00000000/00000000/00000000/00000000/00000000/00000009;", 7, 7, 1, 1);
        trim("00000000/08000100/00000000;", 1, 1, 5, 1);
        trim("0010/1000/0000/0001/0000;", 0, 0, 4, 4);
        trim("000/010/000/010;", 1, 1, 1, 3);
        trim("98765432/98765432;", 0, 0, 8, 2);
        trim("00/00;", NONE, NONE, 0, 0);
        trim("0;", NONE, NONE, 0, 0);
        wholeImages();
        noSuchSprite();
        exact();
        turnedAndMirrored();
        originalsOfCopies();
        symmetricImages();
        Check.finish();
    }

    private static void trim(String text, int left, int top, int wide, int high) {
        SpriteAtlas a = Check.with(text);
        Check.due("15: trimLeft of " + text, a.trimLeft(0), left);
        Check.due("16: trimTop of " + text, a.trimTop(0), top);
        Check.due("17: trimWidth of " + text, a.trimWidth(0), wide);
        Check.due("18: trimHeight of " + text, a.trimHeight(0), high);
    }

    private static void wholeImages() {
        SpriteAtlas a = Check.with("000/010;000/010;00;00;");
        a.setTrimming(false);
        Check.due("15: without trimming", a.trimLeft(0), 0);
        Check.due("16: without trimming", a.trimTop(0), 0);
        Check.due("17: without trimming", a.trimWidth(0), 3);
        Check.due("18: without trimming", a.trimHeight(0), 2);
        Check.due("15: no sprite is blank", a.trimLeft(2), 0);
        Check.due("16: no sprite is blank", a.trimTop(2), 0);
        Check.due("17: no sprite is blank", a.trimWidth(2), 2);
        Check.due("18: no sprite is blank", a.trimHeight(2), 1);
        Check.due("19: a transparent image may be a copy", a.originalOf(3), 2);
        a.setTrimming(true);
        Check.due("19: a blank one is none", a.originalOf(3), NONE);
        Check.due("20: a blank one is none", a.orientationOf(3), NONE);
        a.setPixel(2, 1, 0, 4);
        Check.due("15: after setPixel", a.trimLeft(2), 1);
    }

    private static void noSuchSprite() {
        SpriteAtlas a = Check.with("1;");
        for (int sprite : new int[] {-1, 1, 24, 1000000, -2147483648}) {
            Check.due("15: trimLeft(" + sprite + ")", a.trimLeft(sprite), BAD);
            Check.due("16: trimTop(" + sprite + ")", a.trimTop(sprite), BAD);
            Check.due("17: trimWidth(" + sprite + ")", a.trimWidth(sprite), BAD);
            Check.due("18: trimHeight(" + sprite + ")", a.trimHeight(sprite), BAD);
            Check.due("19: originalOf(" + sprite + ")", a.originalOf(sprite), BAD);
            Check.due("20: orientationOf(" + sprite + ")", a.orientationOf(sprite), BAD);
        }
    }

    private static void expect(SpriteAtlas a, String originals, String orientations) {
        StringBuilder found = new StringBuilder();
        StringBuilder turns = new StringBuilder();
        for (int i = 0; i < a.sprites(); i++) {
            found.append(a.originalOf(i) == NONE ? "-" : Integer.toString(a.originalOf(i)));
            turns.append(a.orientationOf(i) == NONE ? "-" : Integer.toString(a.orientationOf(i)));
        }
        Check.due("19: originals", found.toString(), originals);
        Check.due("20: orientations", turns.toString(), orientations);
    }

    private static void exact() {
        SpriteAtlas a = Check.with("12;012/000;13;12;21;");
        expect(a, "-0-0-", "-0-0-");
        a.setMatching(SpriteAtlas.NEVER);
        expect(a, "-----", "-----");
        a.setMatching(SpriteAtlas.EXACT);
        a.setTrimming(false);
        expect(a, "---0-", "---0-");
        a.drop(0);
        a.setTrimming(true);
        expect(a, "--0-", "--0-");
        Check.due("19: the same colors in another size", Check.with("1122;11/22;").originalOf(1), NONE);
    }

    /** Orientations 1 to 7 of 123/456: four turns, then the mirrored image and its turns. */
    private static void turnedAndMirrored() {
        String text = "123/456;41/52/63;654/321;36/25/14;321/654;63/52/41;456/123;14/25/36;";
        SpriteAtlas a = Check.with(text);
        expect(a, "--------", "--------");
        a.setMatching(SpriteAtlas.TURNED);
        expect(a, "-000-444", "-123-123");
        a.setMatching(SpriteAtlas.ANY);
        expect(a, "-0000000", "-1234567");
        a.setMatching(SpriteAtlas.NEVER);
        expect(a, "--------", "--------");
    }

    private static void originalsOfCopies() {
        SpriteAtlas a = Check.with("0;1;2;01;1;20/00;");
        expect(a, "---112", "---000");
        a.drop(1);
        expect(a, "---21", "---00");
    }

    private static void symmetricImages() {
        SpriteAtlas a = Check.with("11/11;11/11;12/12;21/21;22/11;11/22;1;1;");
        a.setMatching(SpriteAtlas.TURNED);
        expect(a, "-0-222-6", "-0-231-0");
        a.setMatching(SpriteAtlas.ANY);
        expect(a, "-0-222-6", "-0-231-0");
    }
}
