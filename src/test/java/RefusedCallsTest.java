/** Every call that can be refused, in several states: it answers its error, and nothing at all has changed then. */
public final class RefusedCallsTest {
    private static final int BAD = SpriteAtlas.BAD_VALUE, FULL = SpriteAtlas.FULL;
    private static final int NOT_POSSIBLE = SpriteAtlas.NOT_POSSIBLE;
    private static final int LOW = Integer.MIN_VALUE, HIGH = Integer.MAX_VALUE;

    private interface Call {
        int on(SpriteAtlas atlas);
    }

    private interface Recipe {
        SpriteAtlas make();
    }

    public static void main(String[] args) {
        Doc.says("Return values", "a call that returns an error changes nothing.");
        for (Recipe recipe : new Recipe[] {SpriteAtlas::new, RefusedCallsTest::rich, RefusedCallsTest::full}) {
            badSprites(recipe);
            badPages(recipe);
            badSettings(recipe);
            badOthers(recipe);
        }
        refusedWhenNew();
        refusedWhenRich();
        refusedWhenFull();
        Check.finish();
    }

    // ---- states

    /**
     * Six sprites: 0 and 2 on two pages, 1 blank, 3 a copy, 4 and 5 not placed, the latter too large; a page that is
     * empty; a text with a fault; something printed; slot 1 filled, slot 0 empty; two states in the history.
     */
    private static SpriteAtlas rich() {
        SpriteAtlas a = Check.with("12/30;0;" + Check.image(4, 4, 5) + "31/02;7;" + Check.image(8, 8, 9));
        a.setPageSize(7, 6);
        a.setPageLimit(3);
        a.setMargins(1, 0, 1);
        a.setMatching(SpriteAtlas.ANY);
        a.setRotation(true);
        a.setGrouped(true);
        a.setOrder(SpriteAtlas.BY_SIDE);
        a.setWay(SpriteAtlas.LONG_SIDE);
        a.setGroup(0, 1);
        a.setGroup(4, 2);
        a.pack();
        a.keep(1);
        a.restore(1);
        a.unplace(4);
        a.setGroup(4, 3);
        a.print(3);
        Check.text(a, "1;2/");
        return a;
    }

    /** 24 sprites, of which a page of 4 x 4 has room for 16; a text of 160 characters that can be read. */
    private static SpriteAtlas full() {
        SpriteAtlas a = Check.with("1;".repeat(24));
        a.setMatching(SpriteAtlas.NEVER);
        a.setPageSize(4, 4);
        a.setPageLimit(1);
        a.keep(0);
        a.restore(0);
        a.pack();
        a.print(23);
        a.keep(1);
        Check.text(a, "12;".repeat(53) + "3");
        return a;
    }

    // ---- what can be seen of a state

    private static String settings(SpriteAtlas a) {
        return a.setPageSize(4, 4) + " " + a.setPageLimit(1) + " " + a.setMargins(0, 0, 0) + " " + a.setTrimming(true)
                + " " + a.setMatching(0) + " " + a.setRotation(true) + " " + a.setGrouped(true) + " " + a.setOrder(0)
                + " " + a.setWay(0);
    }

    private static String pages(SpriteAtlas a) {
        StringBuilder all = new StringBuilder(Check.places(a));
        for (int page = 0; page < a.pages(); page++) {
            all.append(" [").append(Check.free(a, page)).append(']');
        }
        return all.append(' ').append(a.checksum()).toString();
    }

    private static String text(SpriteAtlas a) {
        String all = a.faultPosition() + " " + a.append('9') + " " + a.faultPosition() + " ";
        return all + a.clearText();
    }

    private static String afterUndo(SpriteAtlas a) {
        StringBuilder all = new StringBuilder();
        for (int i = 0; i < 6; i++) {
            all.append(a.undo()).append(' ').append(a.checksum()).append(' ').append(a.pages()).append("; ");
        }
        return all.append(settings(a)).toString();
    }

    private static String inSlots(SpriteAtlas a) {
        String first = a.restore(0) + " " + pages(a) + " ";
        return first + a.restore(1) + " " + pages(a) + " " + settings(a);
    }

    /** Where the next originals would come depends on the groups of pages, which nothing else shows. */
    private static String inserted(SpriteAtlas a) {
        StringBuilder all = new StringBuilder();
        for (int sprite = 0; sprite < a.sprites() && sprite < 6; sprite++) {
            all.append(a.insert(sprite)).append(' ');
        }
        return all.append(Check.places(a)).toString();
    }

    private static void refused(String call, Recipe recipe, Call tried, int due) {
        SpriteAtlas a = recipe.make(), untouched = recipe.make();
        Doc.due(call, tried.on(a), due);
        Doc.due(call + ": pages", pages(a), pages(untouched));
        Doc.due(call + ": printed", Check.printed(a), Check.printed(untouched));
        Doc.due(call + ": text", text(a), text(untouched));
        Doc.due(call + ": settings", settings(a), settings(untouched));
        a = recipe.make();
        untouched = recipe.make();
        tried.on(a);
        Doc.due(call + ": history", afterUndo(a), afterUndo(untouched));
        a = recipe.make();
        untouched = recipe.make();
        tried.on(a);
        Doc.due(call + ": slots", inSlots(a), inSlots(untouched));
        a = recipe.make();
        untouched = recipe.make();
        tried.on(a);
        Doc.due(call + ": what is inserted next", inserted(a), inserted(untouched));
    }

    private static void bad(String call, Recipe recipe, Call tried) {
        refused(call, recipe, tried, BAD);
    }

    // ---- calls

    private static void badSprites(Recipe recipe) {
        int count = recipe.make().sprites();
        for (int s : new int[] {-1, count, LOW, HIGH}) {
            String of = "(" + s + ")";
            bad("width" + of, recipe, a -> a.width(s));
            bad("height" + of, recipe, a -> a.height(s));
            bad("color" + of, recipe, a -> a.color(s, 0, 0));
            bad("setPixel" + of, recipe, a -> a.setPixel(s, 0, 0, 1));
            bad("drop" + of, recipe, a -> a.drop(s));
            bad("setGroup" + of, recipe, a -> a.setGroup(s, 1));
            bad("groupOf" + of, recipe, a -> a.groupOf(s));
            bad("trimLeft" + of, recipe, a -> a.trimLeft(s));
            bad("trimTop" + of, recipe, a -> a.trimTop(s));
            bad("trimWidth" + of, recipe, a -> a.trimWidth(s));
            bad("trimHeight" + of, recipe, a -> a.trimHeight(s));
            bad("originalOf" + of, recipe, a -> a.originalOf(s));
            bad("orientationOf" + of, recipe, a -> a.orientationOf(s));
            bad("insert" + of, recipe, a -> a.insert(s));
            bad("unplace" + of, recipe, a -> a.unplace(s));
            bad("pageOf" + of, recipe, a -> a.pageOf(s));
            bad("xOf" + of, recipe, a -> a.xOf(s));
            bad("yOf" + of, recipe, a -> a.yOf(s));
            bad("isTurned" + of, recipe, a -> a.isTurned(s));
            bad("recordOf" + of, recipe, a -> a.recordOf(s));
            bad("print" + of, recipe, a -> a.print(s));
        }
    }

    private static void badPages(Recipe recipe) {
        int count = recipe.make().pages();
        for (int p : new int[] {-1, count, LOW, HIGH}) {
            String of = "(" + p + ")";
            bad("pixel" + of, recipe, a -> a.pixel(p, 0, 0));
            bad("spriteAt" + of, recipe, a -> a.spriteAt(p, 0, 0));
            bad("usedWidth" + of, recipe, a -> a.usedWidth(p));
            bad("usedHeight" + of, recipe, a -> a.usedHeight(p));
            bad("freeRectangles" + of, recipe, a -> a.freeRectangles(p));
            bad("freeX" + of, recipe, a -> a.freeX(p, 0));
            bad("freeY" + of, recipe, a -> a.freeY(p, 0));
            bad("freeWidth" + of, recipe, a -> a.freeWidth(p, 0));
            bad("freeHeight" + of, recipe, a -> a.freeHeight(p, 0));
            bad("fill" + of, recipe, a -> a.fill(p, true));
        }
    }

    private static void badSettings(Recipe recipe) {
        for (int n : new int[] {LOW, -1, 0, 3, 33, HIGH}) {
            bad("setPageSize(" + n + ", 8)", recipe, a -> a.setPageSize(n, 8));
            bad("setPageSize(8, " + n + ")", recipe, a -> a.setPageSize(8, n));
        }
        for (int n : new int[] {LOW, -1, 4, HIGH}) {
            bad("setMargins(" + n + ", 1, 1)", recipe, a -> a.setMargins(n, 1, 1));
            bad("setMargins(1, " + n + ", 1)", recipe, a -> a.setMargins(1, n, 1));
            bad("setMargins(1, 1, " + n + ")", recipe, a -> a.setMargins(1, 1, n));
            bad("setMatching(" + n + ")", recipe, a -> a.setMatching(n));
            bad("setOrder(" + n + ")", recipe, a -> a.setOrder(n));
            bad("setWay(" + n + ")", recipe, a -> a.setWay(n));
            bad("setPageLimit(" + n + ")", recipe, a -> a.setPageLimit(n < 0 || n > 4 ? n : n + 1));
        }
        bad("setMargins(1, 1, 3)", recipe, a -> a.setMargins(1, 1, 3));
        bad("setPageLimit(0)", recipe, a -> a.setPageLimit(0));
    }

    private static void badOthers(Recipe recipe) {
        for (int n : new int[] {LOW, -1, 31, 127, HIGH}) {
            bad("append(" + n + ")", recipe, a -> a.append(n));
        }
        for (int n : new int[] {LOW, -1, 0, 9, HIGH}) {
            bad("draw(1, " + n + ")", recipe, a -> a.draw(1, n));
        }
        for (int n : new int[] {LOW, -1}) {
            bad("draw(" + n + ", 1)", recipe, a -> a.draw(n, 1));
            bad("printed(" + n + ")", recipe, a -> a.printed(n));
        }
        for (int n : new int[] {LOW, -1, 2, HIGH}) {
            bad("keep(" + n + ")", recipe, a -> a.keep(n));
            bad("restore(" + n + ")", recipe, a -> a.restore(n));
        }
    }

    private static void refusedWhenNew() {
        Recipe recipe = SpriteAtlas::new;
        refused("undo()", recipe, a -> a.undo(), NOT_POSSIBLE);
        refused("restore(0)", recipe, a -> a.restore(0), NOT_POSSIBLE);
        refused("restore(1)", recipe, a -> a.restore(1), NOT_POSSIBLE);
    }

    private static void refusedWhenRich() {
        Recipe recipe = RefusedCallsTest::rich;
        SpriteAtlas rich = rich();
        Doc.due("places", Check.places(rich), "1:1,1 - 0:1,1 1:1,1 - -");
        Doc.due("pages, an empty one too", rich.pages(), 3);
        refused("read()", recipe, a -> a.read(), NOT_POSSIBLE);
        refused("restore(0)", recipe, a -> a.restore(0), NOT_POSSIBLE);
        refused("insert(0), placed", recipe, a -> a.insert(0), NOT_POSSIBLE);
        refused("insert(1), blank", recipe, a -> a.insert(1), NOT_POSSIBLE);
        refused("insert(3), a copy", recipe, a -> a.insert(3), NOT_POSSIBLE);
        refused("insert(5), too large", recipe, a -> a.insert(5), FULL);
        refused("unplace(1), blank", recipe, a -> a.unplace(1), NOT_POSSIBLE);
        refused("unplace(3), a copy", recipe, a -> a.unplace(3), NOT_POSSIBLE);
        refused("unplace(4), not placed", recipe, a -> a.unplace(4), NOT_POSSIBLE);
        bad("color(0, 2, 0)", recipe, a -> a.color(0, 2, 0));
        bad("color(0, 0, 2)", recipe, a -> a.color(0, 0, 2));
        bad("setPixel(0, 2, 0, 1)", recipe, a -> a.setPixel(0, 2, 0, 1));
        bad("setPixel(0, 0, 2, 1)", recipe, a -> a.setPixel(0, 0, 2, 1));
        bad("setPixel(0, -1, 0, 1)", recipe, a -> a.setPixel(0, -1, 0, 1));
        bad("setPixel(0, 0, -1, 1)", recipe, a -> a.setPixel(0, 0, -1, 1));
        bad("setPixel(0, 0, 0, 10)", recipe, a -> a.setPixel(0, 0, 0, 10));
        bad("setPixel(0, 0, 0, -1)", recipe, a -> a.setPixel(0, 0, 0, -1));
        bad("setGroup(0, 4)", recipe, a -> a.setGroup(0, 4));
        bad("setGroup(0, -1)", recipe, a -> a.setGroup(0, -1));
        bad("pixel(0, 7, 0)", recipe, a -> a.pixel(0, 7, 0));
        bad("spriteAt(0, 0, 6)", recipe, a -> a.spriteAt(0, 0, 6));
        int free = rich.freeRectangles(1);
        bad("freeX(1, " + free + ")", recipe, a -> a.freeX(1, free));
        bad("freeHeight(1, -1)", recipe, a -> a.freeHeight(1, -1));
    }

    private static void refusedWhenFull() {
        Recipe recipe = RefusedCallsTest::full;
        SpriteAtlas full = full();
        Doc.due("sprites()", full.sprites(), 24);
        Doc.due("unplaced()", full.unplaced(), 8);
        refused("append('1')", recipe, a -> a.append('1'), FULL);
        refused("read(), which can't be read", recipe, a -> a.read(), NOT_POSSIBLE);
        Recipe readable = () -> {
            SpriteAtlas a = full();
            Check.text(a, "1;2;");
            return a;
        };
        refused("read()", readable, a -> a.read(), FULL);
        refused("draw(0, 1)", recipe, a -> a.draw(0, 1), FULL);
        refused("draw(2147483647, 8)", recipe, a -> a.draw(HIGH, 8), FULL);
        refused("insert(16), without room", recipe, a -> a.insert(16), FULL);
        refused("insert(23), without room", recipe, a -> a.insert(23), FULL);
        refused("insert(15), placed", recipe, a -> a.insert(15), NOT_POSSIBLE);
        refused("unplace(16), not placed", recipe, a -> a.unplace(16), NOT_POSSIBLE);
        bad("freeX(0, 0)", recipe, a -> a.freeX(0, 0));
        Recipe undone = () -> {
            SpriteAtlas a = full();
            a.undo();
            return a;
        };
        refused("undo()", undone, a -> a.undo(), NOT_POSSIBLE);
    }
}
