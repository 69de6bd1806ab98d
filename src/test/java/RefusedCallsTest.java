/** Every call that can be refused, in several states: it answers its error, and nothing at all has changed then. */
public final class RefusedCallsTest {
    private static final int BAD = SpriteAtlas.BAD_VALUE, FULL = SpriteAtlas.FULL;
    private static final int NOT_POSSIBLE = SpriteAtlas.NOT_POSSIBLE;
    private static final int LOW = Integer.MIN_VALUE, HIGH = Integer.MAX_VALUE;

    public static void main(String[] args) {
        Doc.says("Return values", "a call that returns an error changes nothing.");
        for (States.Recipe recipe : new States.Recipe[] {SpriteAtlas::new, States::rich, States::full}) {
            badSprites(recipe);
            badPages(recipe);
            badSettings(recipe);
            badOthers(recipe);
        }
        refusedWhenNew();
        refusedWhenRich();
        refusedWhenFull();
        Check.finish();
    }

    private static void bad(String call, States.Recipe recipe, States.Call tried) {
        States.unchanged(call, recipe, tried, BAD);
    }

    // ---- calls

    private static void badSprites(States.Recipe recipe) {
        int count = recipe.make().sprites();
        for (int s : new int[] {-1, count, LOW, HIGH}) {
            String of = "(" + s + ")";
            bad("width" + of, recipe, a -> a.width(s));
            bad("height" + of, recipe, a -> a.height(s));
            bad("color" + of, recipe, a -> a.color(s, 0, 0));
            bad("setPixel" + of, recipe, a -> a.setPixel(s, 0, 0, 1));
            bad("drop" + of, recipe, a -> a.drop(s));
            bad("setGroup" + of, recipe, a -> a.setGroup(s, 1));
            bad("groupOf" + of, recipe, a -> a.groupOf(s));
            bad("trimLeft" + of, recipe, a -> a.trimLeft(s));
            bad("trimTop" + of, recipe, a -> a.trimTop(s));
            bad("trimWidth" + of, recipe, a -> a.trimWidth(s));
            bad("trimHeight" + of, recipe, a -> a.trimHeight(s));
            bad("originalOf" + of, recipe, a -> a.originalOf(s));
            bad("orientationOf" + of, recipe, a -> a.orientationOf(s));
            bad("insert" + of, recipe, a -> a.insert(s));
            bad("unplace" + of, recipe, a -> a.unplace(s));
            bad("pageOf" + of, recipe, a -> a.pageOf(s));
            bad("xOf" + of, recipe, a -> a.xOf(s));
            bad("yOf" + of, recipe, a -> a.yOf(s));
            bad("isTurned" + of, recipe, a -> a.isTurned(s));
            bad("recordOf" + of, recipe, a -> a.recordOf(s));
            bad("print" + of, recipe, a -> a.print(s));
        }
    }

    private static void badPages(States.Recipe recipe) {
        int count = recipe.make().pages();
        for (int p : new int[] {-1, count, LOW, HIGH}) {
            String of = "(" + p + ")";
            bad("pixel" + of, recipe, a -> a.pixel(p, 0, 0));
            bad("spriteAt" + of, recipe, a -> a.spriteAt(p, 0, 0));
            bad("usedWidth" + of, recipe, a -> a.usedWidth(p));
            bad("usedHeight" + of, recipe, a -> a.usedHeight(p));
            bad("freeRectangles" + of, recipe, a -> a.freeRectangles(p));
            bad("freeX" + of, recipe, a -> a.freeX(p, 0));
            bad("freeY" + of, recipe, a -> a.freeY(p, 0));
            bad("freeWidth" + of, recipe, a -> a.freeWidth(p, 0));
            bad("freeHeight" + of, recipe, a -> a.freeHeight(p, 0));
            bad("fill" + of, recipe, a -> a.fill(p, true));
        }
    }

    private static void badSettings(States.Recipe recipe) {
        for (int n : new int[] {LOW, -1, 0, 3, 33, HIGH}) {
            bad("setPageSize(" + n + ", 8)", recipe, a -> a.setPageSize(n, 8));
            bad("setPageSize(8, " + n + ")", recipe, a -> a.setPageSize(8, n));
        }
        for (int n : new int[] {LOW, -1, 4, HIGH}) {
            bad("setMargins(" + n + ", 1, 1)", recipe, a -> a.setMargins(n, 1, 1));
            bad("setMargins(1, " + n + ", 1)", recipe, a -> a.setMargins(1, n, 1));
            bad("setMargins(1, 1, " + n + ")", recipe, a -> a.setMargins(1, 1, n));
            bad("setMatching(" + n + ")", recipe, a -> a.setMatching(n));
            bad("setOrder(" + n + ")", recipe, a -> a.setOrder(n));
            bad("setWay(" + n + ")", recipe, a -> a.setWay(n));
            bad("setPageLimit(" + n + ")", recipe, a -> a.setPageLimit(n < 0 || n > 4 ? n : n + 1));
        }
        bad("setMargins(1, 1, 3)", recipe, a -> a.setMargins(1, 1, 3));
        bad("setPageLimit(0)", recipe, a -> a.setPageLimit(0));
    }

    private static void badOthers(States.Recipe recipe) {
        for (int n : new int[] {LOW, -1, 31, 127, HIGH}) {
            bad("append(" + n + ")", recipe, a -> a.append(n));
        }
        for (int n : new int[] {LOW, -1, 0, 9, HIGH}) {
            bad("draw(1, " + n + ")", recipe, a -> a.draw(1, n));
        }
        for (int n : new int[] {LOW, -1}) {
            bad("draw(" + n + ", 1)", recipe, a -> a.draw(n, 1));
            bad("printed(" + n + ")", recipe, a -> a.printed(n));
        }
        for (int n : new int[] {LOW, -1, 2, HIGH}) {
            bad("keep(" + n + ")", recipe, a -> a.keep(n));
            bad("restore(" + n + ")", recipe, a -> a.restore(n));
        }
    }

    private static void refusedWhenNew() {
        States.Recipe recipe = SpriteAtlas::new;
        States.unchanged("undo()", recipe, a -> a.undo(), NOT_POSSIBLE);
        States.unchanged("restore(0)", recipe, a -> a.restore(0), NOT_POSSIBLE);
        States.unchanged("restore(1)", recipe, a -> a.restore(1), NOT_POSSIBLE);
    }

    private static void refusedWhenRich() {
        States.Recipe recipe = States::rich;
        SpriteAtlas rich = States.rich();
        Doc.due("places", Check.places(rich), "1:1,1 - 0:1,1 1:1,1 - -");
        Doc.due("pages, an empty one too", rich.pages(), 3);
        States.unchanged("read()", recipe, a -> a.read(), NOT_POSSIBLE);
        States.unchanged("restore(0)", recipe, a -> a.restore(0), NOT_POSSIBLE);
        States.unchanged("insert(0), placed", recipe, a -> a.insert(0), NOT_POSSIBLE);
        States.unchanged("insert(1), blank", recipe, a -> a.insert(1), NOT_POSSIBLE);
        States.unchanged("insert(3), a copy", recipe, a -> a.insert(3), NOT_POSSIBLE);
        States.unchanged("insert(5), too large", recipe, a -> a.insert(5), FULL);
        States.unchanged("unplace(1), blank", recipe, a -> a.unplace(1), NOT_POSSIBLE);
        States.unchanged("unplace(3), a copy", recipe, a -> a.unplace(3), NOT_POSSIBLE);
        States.unchanged("unplace(4), not placed", recipe, a -> a.unplace(4), NOT_POSSIBLE);
        bad("color(0, 2, 0)", recipe, a -> a.color(0, 2, 0));
        bad("color(0, 0, 2)", recipe, a -> a.color(0, 0, 2));
        bad("setPixel(0, 2, 0, 1)", recipe, a -> a.setPixel(0, 2, 0, 1));
        bad("setPixel(0, 0, 2, 1)", recipe, a -> a.setPixel(0, 0, 2, 1));
        bad("setPixel(0, -1, 0, 1)", recipe, a -> a.setPixel(0, -1, 0, 1));
        bad("setPixel(0, 0, -1, 1)", recipe, a -> a.setPixel(0, 0, -1, 1));
        bad("setPixel(0, 0, 0, 10)", recipe, a -> a.setPixel(0, 0, 0, 10));
        bad("setPixel(0, 0, 0, -1)", recipe, a -> a.setPixel(0, 0, 0, -1));
        bad("setGroup(0, 4)", recipe, a -> a.setGroup(0, 4));
        bad("setGroup(0, -1)", recipe, a -> a.setGroup(0, -1));
        bad("pixel(0, 7, 0)", recipe, a -> a.pixel(0, 7, 0));
        bad("spriteAt(0, 0, 6)", recipe, a -> a.spriteAt(0, 0, 6));
        int free = rich.freeRectangles(1);
        bad("freeX(1, " + free + ")", recipe, a -> a.freeX(1, free));
        bad("freeHeight(1, -1)", recipe, a -> a.freeHeight(1, -1));
    }

    private static void refusedWhenFull() {
        States.Recipe recipe = States::full;
        SpriteAtlas full = States.full();
        Doc.due("sprites()", full.sprites(), 24);
        Doc.due("unplaced()", full.unplaced(), 8);
        States.unchanged("append('1')", recipe, a -> a.append('1'), FULL);
        States.unchanged("read(), which can't be read", recipe, a -> a.read(), NOT_POSSIBLE);
        States.Recipe readable = () -> {
            SpriteAtlas a = States.full();
            Check.text(a, "1;2;");
            return a;
        };
        States.unchanged("read()", readable, a -> a.read(), FULL);
        States.unchanged("draw(0, 1)", recipe, a -> a.draw(0, 1), FULL);
        States.unchanged("draw(2147483647, 8)", recipe, a -> a.draw(HIGH, 8), FULL);
        States.unchanged("insert(16), without room", recipe, a -> a.insert(16), FULL);
        States.unchanged("insert(23), without room", recipe, a -> a.insert(23), FULL);
        States.unchanged("insert(15), placed", recipe, a -> a.insert(15), NOT_POSSIBLE);
        States.unchanged("unplace(16), not placed", recipe, a -> a.unplace(16), NOT_POSSIBLE);
        bad("freeX(0, 0)", recipe, a -> a.freeX(0, 0));
        States.Recipe undone = () -> {
            SpriteAtlas a = States.full();
            a.undo();
            return a;
        };
        States.unchanged("undo()", undone, a -> a.undo(), NOT_POSSIBLE);
    }
}
