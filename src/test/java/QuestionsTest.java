/** Calls that only ask change nothing at all; calls that change sprites, settings or places change nothing else. */
public final class QuestionsTest {
    private static final States.Call[] ON_SPRITES = {
        a -> a.width(3), a -> a.height(3), a -> a.color(3, 1, 0), a -> a.groupOf(0), a -> a.trimLeft(2),
        a -> a.trimTop(2), a -> a.trimWidth(2), a -> a.trimHeight(2), a -> a.originalOf(3), a -> a.orientationOf(3),
        a -> a.pageOf(3), a -> a.xOf(3), a -> a.yOf(3), a -> a.isTurned(3), a -> a.recordOf(3), a -> a.trimLeft(1),
        a -> a.originalOf(0), a -> a.orientationOf(0), a -> a.pageOf(5), a -> a.xOf(5), a -> a.recordOf(5)
    };
    private static final States.Call[] ON_PAGES = {
        a -> a.pages(), a -> a.pixel(0, 1, 1), a -> a.spriteAt(0, 1, 1), a -> a.spriteAt(0, 3, 3),
        a -> a.usedWidth(0), a -> a.usedHeight(0), a -> a.freeRectangles(0), a -> a.freeX(0, 0), a -> a.freeY(0, 0),
        a -> a.freeWidth(0, 0), a -> a.freeHeight(0, 0), a -> a.fill(0, false), a -> a.fill(0, true)
    };
    private static final States.Call[] ON_ALL = {
        a -> a.faultPosition(), a -> a.sprites(), a -> a.unplaced(), a -> a.pageBound(), a -> a.bestMethod(),
        a -> a.smallestPage(), a -> a.printed(0), a -> a.printed(99), a -> (int) a.checksum()
    };
    // some of them are refused in some of the states
    private static final States.Call[] CHANGES = {
        a -> a.read(), a -> a.draw(5, 3), a -> a.setPixel(0, 0, 0, 8), a -> a.drop(0), a -> a.setGroup(0, 2),
        a -> a.setPageSize(9, 8), a -> a.setPageLimit(4), a -> a.setMargins(2, 1, 2), a -> a.setTrimming(false),
        a -> a.setMatching(SpriteAtlas.TURNED), a -> a.setRotation(false), a -> a.setGrouped(false),
        a -> a.setOrder(SpriteAtlas.BY_AREA), a -> a.setWay(SpriteAtlas.TOP_LEFT), a -> a.pack(), a -> a.insert(4),
        a -> a.unplace(0), a -> a.undo(), a -> a.restore(1)
    };

    private QuestionsTest() {
    }

    public static void main(String[] args) {
        for (States.Recipe recipe : new States.Recipe[] {SpriteAtlas::new, States::rich, States::full}) {
            questions("question on a sprite", recipe, ON_SPRITES);
            questions("question on a page", recipe, ON_PAGES);
            questions("question on all", recipe, ON_ALL);
            changes(recipe);
        }
        readable();
        output();
        slots();
        Check.finish();
    }

    private static void questions(String kind, States.Recipe recipe, States.Call[] calls) {
        Doc.says("Changes", "The calls of read(), setPixel(), drop(), draw(), setGroup(), pack(), insert(), unplace() and"
                + " of the methods that set settings, if they return no error, are changes.");
        for (int i = 0; i < calls.length; i++) {
            States.unchanged(kind + " " + i, recipe, calls[i], calls[i].on(recipe.make()));
        }
    }

    private static void changes(States.Recipe recipe) {
        Doc.says("33", "Restores the latest state of the history: sprites, groups, settings and the atlas become as"
                + " before the change.");
        for (int i = 0; i < CHANGES.length; i++) {
            States.onlyAtlasChanged("change " + i, recipe, CHANGES[i]);
        }
    }

    private static void readable() {
        Doc.says("5", "The text stays.");
        States.Recipe recipe = () -> {
            SpriteAtlas a = States.rich();
            Check.text(a, "7;89/65;");
            return a;
        };
        Doc.due("it can be read", recipe.make().read(), 8);
        States.onlyAtlasChanged("read()", recipe, a -> a.read());
        States.onlyAtlasChanged("read() twice, and undo()", recipe, a -> a.read() + a.read() + a.undo());
    }

    private static void output() {
        Doc.says("54", "Prints a sprite, in place of what was printed before:");
        SpriteAtlas a = States.rich();
        Doc.due("before", Check.printed(a), "3: page 1 at 1,1 size 2x2 record 1 copy of 0");
        a.append(';');
        a.clearText();
        a.keep(0);
        a.keep(1);
        a.restore(0);
        Doc.due("text and slots leave it", Check.printed(a), "3: page 1 at 1,1 size 2x2 record 1 copy of 0");
        a.drop(3);
        Doc.due("so does the sprite when it goes", Check.printed(a), "3: page 1 at 1,1 size 2x2 record 1 copy of 0");
        a.print(1);
        Doc.due("a shorter one in its place", Check.printed(a), "1: blank");
        Doc.due("nothing is left of the longer one", a.printed(8), SpriteAtlas.NONE);
    }

    private static void slots() {
        Doc.says("56", "Keeps the sprites with their groups, the settings and the atlas, in place of what the slot"
                + " keeps.");
        SpriteAtlas a = States.rich(), other = States.full();
        Doc.due("keep(0)", a.keep(0), 6);
        Doc.due("nothing else is changed", a.checksum(), States.rich().checksum());
        Doc.due("another object's slots are its own", other.restore(0), 24);
        Doc.due("the history stays", a.undo(), 1);
        a.drop(0);
        Doc.due("keep(1)", a.keep(1), 5);
        Doc.due("slot 0 as it was", a.restore(0), 6);
        Doc.due("its sprites and places", a.checksum(), States.rich().checksum());
        Doc.due("slot 1 as it is kept last", a.restore(1), 5);
        Doc.due("without pages", a.pages(), 0);
    }
}
