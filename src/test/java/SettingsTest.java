/** Promises 21 to 29: the settings, each of which empties the atlas and is a change. */
public final class SettingsTest {
    private static final int BAD = SpriteAtlas.BAD_VALUE, NONE = SpriteAtlas.NONE;

    private interface Call {
        int on(SpriteAtlas atlas);
    }

    public static void main(String[] args) {
        good("21: setPageSize(4, 32)", a -> a.setPageSize(4, 32), 1616, 432);
        good("21: setPageSize(32, 4)", a -> a.setPageSize(32, 4), 1616, 3204);
        good("21: setPageSize(16, 16)", a -> a.setPageSize(16, 16), 1616, 1616);
        bad("21: setPageSize(3, 16)", a -> a.setPageSize(3, 16));
        bad("21: setPageSize(33, 16)", a -> a.setPageSize(33, 16));
        bad("21: setPageSize(16, 3)", a -> a.setPageSize(16, 3));
        bad("21: setPageSize(16, 33)", a -> a.setPageSize(16, 33));
        good("22: setPageLimit(1)", a -> a.setPageLimit(1), 2, 1);
        good("22: setPageLimit(4)", a -> a.setPageLimit(4), 2, 4);
        bad("22: setPageLimit(0)", a -> a.setPageLimit(0));
        bad("22: setPageLimit(5)", a -> a.setPageLimit(5));
        good("23: setMargins(3, 2, 1)", a -> a.setMargins(3, 2, 1), 0, 321);
        good("23: setMargins(0, 3, 2)", a -> a.setMargins(0, 3, 2), 0, 32);
        good("23: setMargins(0, 0, 0)", a -> a.setMargins(0, 0, 0), 0, 0);
        bad("23: setMargins(4, 0, 0)", a -> a.setMargins(4, 0, 0));
        bad("23: setMargins(-1, 0, 0)", a -> a.setMargins(-1, 0, 0));
        bad("23: setMargins(0, 4, 0)", a -> a.setMargins(0, 4, 0));
        bad("23: setMargins(0, -1, 0)", a -> a.setMargins(0, -1, 0));
        bad("23: setMargins(0, 0, 3)", a -> a.setMargins(0, 0, 3));
        bad("23: setMargins(0, 0, -1)", a -> a.setMargins(0, 0, -1));
        good("24: setTrimming(false)", a -> a.setTrimming(false), 1, 0);
        good("24: setTrimming(true)", a -> a.setTrimming(true), 1, 1);
        good("25: setMatching(NEVER)", a -> a.setMatching(SpriteAtlas.NEVER), 1, 0);
        good("25: setMatching(ANY)", a -> a.setMatching(SpriteAtlas.ANY), 1, 3);
        bad("25: setMatching(-1)", a -> a.setMatching(-1));
        bad("25: setMatching(4)", a -> a.setMatching(4));
        good("26: setRotation(true)", a -> a.setRotation(true), 0, 1);
        good("26: setRotation(false)", a -> a.setRotation(false), 0, 0);
        good("27: setGrouped(true)", a -> a.setGrouped(true), 0, 1);
        good("27: setGrouped(false)", a -> a.setGrouped(false), 0, 0);
        good("28: setOrder(BY_HEIGHT)", a -> a.setOrder(SpriteAtlas.BY_HEIGHT), 0, 3);
        good("28: setOrder(BY_SIDE)", a -> a.setOrder(SpriteAtlas.BY_SIDE), 0, 2);
        bad("28: setOrder(-1)", a -> a.setOrder(-1));
        bad("28: setOrder(4)", a -> a.setOrder(4));
        good("29: setWay(TOP_LEFT)", a -> a.setWay(SpriteAtlas.TOP_LEFT), 0, 3);
        good("29: setWay(LONG_SIDE)", a -> a.setWay(SpriteAtlas.LONG_SIDE), 0, 1);
        bad("29: setWay(-1)", a -> a.setWay(-1));
        bad("29: setWay(4)", a -> a.setWay(4));
        manyCalls();
        effects();
        Check.finish();
    }

    private static void good(String name, Call call, int first, int second) {
        SpriteAtlas a = Check.with("12;");
        a.pack();
        Check.due(name, call.on(a), first);
        Check.due(name + ": pages()", a.pages(), 0);
        Check.due(name + ": pageOf(0)", a.pageOf(0), NONE);
        Check.due(name + " again", call.on(a), second);
        Check.due(name + ": undo()", a.undo(), 3);
        Check.due(name + ": undo()", a.undo(), 2);
        Check.due(name + ": pages() as before", a.pages(), 1);
        Check.due(name + " after undo()", call.on(a), first);
    }

    private static void bad(String name, Call call) {
        SpriteAtlas a = Check.with("12;");
        a.pack();
        long before = a.checksum();
        Check.due(name, call.on(a), BAD);
        Check.due(name + ": checksum()", a.checksum(), before);
        Check.due(name + ": undo()", a.undo(), 1);
    }

    private static void manyCalls() {
        SpriteAtlas a = new SpriteAtlas();
        for (int i = 0; i < 40; i++) {
            Check.due("29: setWay", a.setWay((i + 1) % 4), i % 4);
            Check.due("28: setOrder", a.setOrder((i + 1) % 4), i % 4);
            Check.due("25: setMatching", a.setMatching(i % 4), i == 0 ? 1 : (i + 3) % 4);
        }
    }

    /** That the settings do what they are for; how, the other tests tell. */
    private static void effects() {
        SpriteAtlas a = Check.with("12345678;1/2/3/4/5/6/7/8;");
        a.setPageSize(8, 4);
        Check.due("21: too low a page", a.pack(), 1);
        a.setRotation(true);
        Check.due("26: turned it fits", a.pack(), 0);
        Check.due("26: turned", a.isTurned(1), 1);
        a.setPageSize(4, 8);
        Check.due("21: the other way", a.pack(), 0);
        Check.due("26: turned", a.isTurned(0), 1);
        a.setRotation(false);
        Check.due("26: upright only", a.pack(), 1);
        SpriteAtlas b = Check.with("1111/1111/1111/1111;2222/2222/2222/2222;3333/3333/3333/3333;");
        b.setPageSize(4, 4);
        Check.due("22: two pages", b.pack(), 1);
        b.setPageLimit(1);
        Check.due("22: one page", b.pack(), 2);
        b.setPageLimit(3);
        Check.due("22: three pages", b.pack(), 0);
    }
}
