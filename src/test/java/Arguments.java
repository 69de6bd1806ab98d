/** What every method does with the number of a sprite, or of a page, that does not exist. */
final class Arguments {
    private static final int BAD = SpriteAtlas.BAD_VALUE;
    private static final int LOW = Integer.MIN_VALUE, HIGH = Integer.MAX_VALUE;

    interface Call {
        int with(SpriteAtlas atlas, int number);
    }

    private Arguments() {
    }

    private static void good(SpriteAtlas atlas, int number, Call call) {
        Doc.holds("with " + number, call.with(atlas, number) != BAD);
    }

    private static void bad(SpriteAtlas atlas, int number, Call call) {
        Doc.due("with " + number, call.with(atlas, number), BAD);
    }

    /** For a method that has a sprite as its argument. */
    static void sprite(String promise, Call call) {
        Doc.says(promise, "- `sprite`: the number of a sprite");
        bad(new SpriteAtlas(), 0, call);
        String three = "1;0;22;";
        good(Check.with(three), 0, call);
        good(Check.with(three), 2, call);
        for (int none : new int[] {-1, 3, 24, -4, LOW, HIGH}) {
            bad(Check.with(three), none, call);
        }
        SpriteAtlas a = Check.with(three);
        a.drop(0);
        bad(a, 2, call);
        a.undo();
        good(a, 2, call);
        good(Check.with("1;".repeat(24)), 23, call);
        bad(Check.with("1;".repeat(24)), 24, call);
        bad(Check.with("1;".repeat(24)), -1, call);
    }

    /** For a method that has a page as its argument, and changes nothing. */
    static void page(String promise, Call call) {
        Doc.says(promise, "- `page`: the number of a page");
        SpriteAtlas a = Check.with(Check.image(3, 3, 1) + Check.image(3, 3, 2) + Check.image(3, 3, 3)
                + Check.image(3, 3, 4));
        a.setPageSize(4, 4);
        bad(a, 0, call);
        a.pack();
        good(a, 0, call);
        good(a, 1, call);
        for (int none : new int[] {-1, 2, 4, LOW, HIGH}) {
            bad(a, none, call);
        }
        a.unplace(1);
        good(a, 1, call);
        a.setPageLimit(4);
        bad(a, 0, call);
        a.pack();
        good(a, 3, call);
        bad(a, 4, call);
        bad(a, -1, call);
        a.undo();
        bad(a, 0, call);
        a.undo();
        good(a, 1, call);
        bad(a, 2, call);
    }
}
