/** Objects in several states, and all that can be seen of a state, to compare what calls leave as it was. */
final class States {
    interface Call {
        int on(SpriteAtlas atlas);
    }

    interface Recipe {
        SpriteAtlas make();
    }

    private States() {
    }

    // ---- states

    /**
     * Six sprites: 0 and 2 on two pages, 1 blank, 3 a copy, 4 and 5 not placed, the latter too large; a page that is
     * empty; a text with a fault; something printed; slot 1 filled, slot 0 empty; two states in the history.
     */
    static SpriteAtlas rich() {
        SpriteAtlas a = Check.with("12/30;0;" + Check.image(4, 4, 5) + "31/02;7;" + Check.image(8, 8, 9));
        a.setPageSize(7, 6);
        a.setPageLimit(3);
        a.setMargins(1, 0, 1);
        a.setMatching(SpriteAtlas.ANY);
        a.setRotation(true);
        a.setGrouped(true);
        a.setOrder(SpriteAtlas.BY_SIDE);
        a.setWay(SpriteAtlas.LONG_SIDE);
        a.setGroup(0, 1);
        a.setGroup(4, 2);
        a.pack();
        a.keep(1);
        a.restore(1);
        a.unplace(4);
        a.setGroup(4, 3);
        a.print(3);
        Check.text(a, "1;2/");
        return a;
    }

    /** 24 sprites, of which a page of 4 x 4 has room for 16; a text of 160 characters that ends too early. */
    static SpriteAtlas full() {
        SpriteAtlas a = Check.with("1;".repeat(24));
        a.setMatching(SpriteAtlas.NEVER);
        a.setPageSize(4, 4);
        a.setPageLimit(1);
        a.keep(0);
        a.restore(0);
        a.pack();
        a.print(23);
        a.keep(1);
        Check.text(a, "12;".repeat(53) + "3");
        return a;
    }

    // ---- what can be seen of a state

    private static String settings(SpriteAtlas a) {
        return a.setPageSize(4, 4) + " " + a.setPageLimit(1) + " " + a.setMargins(0, 0, 0) + " " + a.setTrimming(true)
                + " " + a.setMatching(0) + " " + a.setRotation(true) + " " + a.setGrouped(true) + " " + a.setOrder(0)
                + " " + a.setWay(0);
    }

    private static String pages(SpriteAtlas a) {
        StringBuilder all = new StringBuilder(Check.places(a));
        for (int page = 0; page < a.pages(); page++) {
            all.append(" [").append(Check.free(a, page)).append(']');
        }
        return all.append(' ').append(a.checksum()).toString();
    }

    /** The text shows when it is ended and read; what is printed and the settings stay by that. */
    private static String text(SpriteAtlas a) {
        String all = a.faultPosition() + " " + a.append('9') + " " + a.append(';') + " " + a.faultPosition() + " ";
        for (int i = a.sprites(); i > 6; i--) {
            a.drop(0);
        }
        return all + a.read() + " " + a.checksum() + " " + a.clearText();
    }

    private static String afterUndo(SpriteAtlas a) {
        StringBuilder all = new StringBuilder();
        for (int i = 0; i < 6; i++) {
            all.append(a.undo()).append(' ').append(a.checksum()).append(' ').append(a.pages()).append("; ");
        }
        return all.append(settings(a)).toString();
    }

    private static String inSlots(SpriteAtlas a) {
        String first = a.restore(0) + " " + pages(a) + " ";
        return first + a.restore(1) + " " + pages(a) + " " + settings(a);
    }

    /** Where the next originals would come depends on the groups of pages, which nothing else shows. */
    private static String inserted(SpriteAtlas a) {
        StringBuilder all = new StringBuilder();
        for (int sprite = 0; sprite < a.sprites() && sprite < 6; sprite++) {
            all.append(a.insert(sprite)).append(' ');
        }
        return all.append(Check.places(a)).toString();
    }

    // ---- comparisons

    /** A call answers what is due, and leaves everything as it is in an object that has not been called. */
    static void unchanged(String call, Recipe recipe, Call tried, int due) {
        SpriteAtlas a = recipe.make(), untouched = recipe.make();
        Doc.due(call, tried.on(a), due);
        Doc.due(call + ": pages", pages(a), pages(untouched));
        Doc.due(call + ": printed", Check.printed(a), Check.printed(untouched));
        Doc.due(call + ": text", text(a), text(untouched));
        Doc.due(call + ": settings", settings(a), settings(untouched));
        a = called(recipe, tried);
        Doc.due(call + ": history", afterUndo(a), afterUndo(recipe.make()));
        a = called(recipe, tried);
        Doc.due(call + ": slots", inSlots(a), inSlots(recipe.make()));
        a = called(recipe, tried);
        Doc.due(call + ": what is inserted next", inserted(a), inserted(recipe.make()));
    }

    /** A call that may change the rest leaves the text, what is printed, and the slots as they are. */
    static void onlyAtlasChanged(String call, Recipe recipe, Call tried) {
        SpriteAtlas a = called(recipe, tried), untouched = recipe.make();
        Doc.due(call + ": printed", Check.printed(a), Check.printed(untouched));
        Doc.due(call + ": text", textAlone(a), textAlone(untouched));
        Doc.due(call + ": slots", slotsAlone(a), slotsAlone(untouched));
    }

    /** What the slots keep, without the state that is seen if a slot is empty. */
    private static String slotsAlone(SpriteAtlas a) {
        StringBuilder all = new StringBuilder();
        for (int slot = 0; slot < 2; slot++) {
            boolean filled = a.restore(slot) >= 0;
            all.append(filled ? pages(a) + " " + settings(a) : "empty").append("; ");
        }
        return all.toString();
    }

    private static String textAlone(SpriteAtlas a) {
        for (int i = a.sprites(); i > 0; i--) {
            a.drop(0);
        }
        a.setMatching(SpriteAtlas.NEVER);
        a.setTrimming(true);
        return text(a);
    }

    private static SpriteAtlas called(Recipe recipe, Call tried) {
        SpriteAtlas a = recipe.make();
        tried.on(a);
        return a;
    }
}
