import java.util.Random;

/** Long runs of random calls, each answer compared with the model's; the seeds are fixed, so that runs repeat. */
public final class RandomRunsTest {
    private static final int RUNS = Integer.getInteger("runs", 250);
    private static final int FIRST = Integer.getInteger("first", 1);
    private static final int CALLS = 160;

    private final Random random;
    private final SpriteAtlas atlas = new SpriteAtlas();
    private final Model model = new Model();
    private final StringBuilder calls = new StringBuilder();
    private final int mostSide;

    private RandomRunsTest(long seed) {
        random = new Random(seed);
        mostSide = random.nextInt(5) == 0 ? 33 : 15;
    }

    public static void main(String[] args) {
        for (int run = FIRST; run < FIRST + RUNS && !Check.hasFailed(); run++) {
            RandomRunsTest test = new RandomRunsTest(run);
            for (int i = 0; i < CALLS && !Check.hasFailed(); i++) {
                test.callOne();
            }
            test.compare("checksum()", test.atlas.checksum(), test.model.checksum());
            if (Check.hasFailed()) {
                System.out.println("run " + run + ":" + test.calls);
            }
        }
        Check.finish();
    }

    private void compare(String call, long got, long want) {
        calls.append(' ').append(call).append('=').append(got);
        Check.due(call, got, want);
    }

    /** A number from low to high, now and then one beyond. */
    private int number(int low, int high) {
        int kind = random.nextInt(40);
        if (kind == 0) {
            return low - 1;
        }
        if (kind == 1) {
            return high + 1;
        }
        if (kind == 2) {
            return random.nextInt();
        }
        return low + (high < low ? 0 : random.nextInt(high - low + 1));
    }

    private int sprite() {
        return number(0, model.sprites() - 1);
    }

    private int page() {
        return number(0, model.pages() - 1);
    }

    private void callOne() {
        switch (random.nextInt(12)) {
            case 0: case 1: addSprites(); break;
            case 2: changeSprites(); break;
            case 3: changeSettings(); break;
            case 4: case 5: case 6: place(); break;
            case 7: askSprite(); break;
            case 8: case 9: askPage(); break;
            case 10: analyze(); break;
            default: keepAndPrint();
        }
    }

    private void addSprites() {
        int start = random.nextInt(9) == 0 ? -1 : random.nextInt(1 << 30);
        int n = number(1, 8);
        int kind = random.nextInt(4);
        if (kind == 0) {
            compare("draw(" + start + ", " + n + ")", atlas.draw(start, n), model.draw(start, n));
            return;
        }
        compare("clearText()", atlas.clearText(), model.clearText());
        for (char c : (kind == 1 ? randomText() : imagesText()).toCharArray()) {
            compare("append(" + (int) c + ")", atlas.append(c), model.append(c));
        }
        compare("faultPosition()", atlas.faultPosition(), model.faultPosition());
        compare("read()", atlas.read(), model.read());
    }

    private String randomText() {
        StringBuilder text = new StringBuilder();
        int length = random.nextInt(20);
        for (int i = 0; i < length; i++) {
            text.append("0012///;;;; a".charAt(random.nextInt(13)));
        }
        return text.toString();
    }

    /** Images that are likely to be copies of one another. */
    private String imagesText() {
        StringBuilder text = new StringBuilder();
        int images = random.nextInt(5) + 1;
        for (int i = 0; i < images; i++) {
            int[][] image;
            if (model.sprites() > 0 && random.nextInt(3) == 0) {
                image = Model.orient(model.image(random.nextInt(model.sprites())), random.nextInt(8));
            } else {
                image = new int[random.nextInt(random.nextInt(8) + 1) + 1][random.nextInt(random.nextInt(8) + 1) + 1];
                for (int[] row : image) {
                    for (int x = 0; x < row.length; x++) {
                        row[x] = random.nextInt(2) * (random.nextInt(8) == 0 ? random.nextInt(10) : 1);
                    }
                }
            }
            for (int y = 0; y < image.length; y++) {
                text.append(y > 0 ? "/" : "");
                for (int c : image[y]) {
                    text.append(c);
                }
            }
            text.append(random.nextInt(60) == 0 ? "" : ";");
        }
        return text.toString();
    }

    private void changeSprites() {
        int s = sprite();
        switch (random.nextInt(5)) {
            case 0: compare("drop(" + s + ")", atlas.drop(s), model.drop(s)); break;
            case 1: {
                int x = number(0, 2), y = number(0, 2), c = number(0, 9);
                compare("setPixel(" + s + "," + x + "," + y + "," + c + ")", atlas.setPixel(s, x, y, c),
                        model.setPixel(s, x, y, c));
                break;
            }
            default: {
                int g = number(0, 3);
                compare("setGroup(" + s + "," + g + ")", atlas.setGroup(s, g), model.setGroup(s, g));
            }
        }
    }

    private void changeSettings() {
        int a = number(0, 3), b = number(0, 3), c = number(0, 2);
        boolean on = random.nextBoolean();
        String margins = "(" + a + "," + b + "," + c + ")";
        switch (random.nextInt(9)) {
            case 0: {
                int wide = number(4, mostSide - 1), high = number(4, mostSide - 1);
                compare("setPageSize(" + wide + "," + high + ")", atlas.setPageSize(wide, high),
                        model.setPageSize(wide, high));
                break;
            }
            case 1:
                compare("setPageLimit(" + (a + 1) + ")", atlas.setPageLimit(a + 1), model.setPageLimit(a + 1));
                break;
            case 2: compare("setMargins" + margins, atlas.setMargins(a, b, c), model.setMargins(a, b, c)); break;
            case 3: compare("setTrimming(" + on + ")", atlas.setTrimming(on), model.setTrimming(on)); break;
            case 4: compare("setMatching(" + a + ")", atlas.setMatching(a), model.setMatching(a)); break;
            case 5: compare("setRotation(" + on + ")", atlas.setRotation(on), model.setRotation(on)); break;
            case 6: compare("setGrouped(" + on + ")", atlas.setGrouped(on), model.setGrouped(on)); break;
            case 7: compare("setOrder(" + a + ")", atlas.setOrder(a), model.setOrder(a)); break;
            default: compare("setWay(" + a + ")", atlas.setWay(a), model.setWay(a));
        }
    }

    private void place() {
        int s = sprite();
        int kind = random.nextInt(8);
        if (kind < 3 && model.pages() == 0 || kind == 0) {
            compare("pack()", atlas.pack(), model.pack());
        } else if (kind < 4) {
            compare("insert(" + s + ")", atlas.insert(s), model.insert(s));
        } else if (kind < 7) {
            compare("unplace(" + s + ")", atlas.unplace(s), model.unplace(s));
        } else {
            compare("undo()", atlas.undo(), model.undo());
        }
        compare("checksum()", atlas.checksum(), model.checksum());
    }

    private void askSprite() {
        int s = sprite(), x = number(0, 4), y = number(0, 4);
        String of = "(" + s + ")";
        compare("sprites()", atlas.sprites(), model.sprites());
        compare("width" + of, atlas.width(s), model.width(s));
        compare("height" + of, atlas.height(s), model.height(s));
        compare("color(" + s + "," + x + "," + y + ")", atlas.color(s, x, y), model.color(s, x, y));
        compare("groupOf" + of, atlas.groupOf(s), model.groupOf(s));
        compare("trimLeft" + of, atlas.trimLeft(s), model.trimLeft(s));
        compare("trimTop" + of, atlas.trimTop(s), model.trimTop(s));
        compare("trimWidth" + of, atlas.trimWidth(s), model.trimWidth(s));
        compare("trimHeight" + of, atlas.trimHeight(s), model.trimHeight(s));
        compare("originalOf" + of, atlas.originalOf(s), model.originalOf(s));
        compare("orientationOf" + of, atlas.orientationOf(s), model.orientationOf(s));
        compare("pageOf" + of, atlas.pageOf(s), model.pageOf(s));
        compare("xOf" + of, atlas.xOf(s), model.xOf(s));
        compare("yOf" + of, atlas.yOf(s), model.yOf(s));
        compare("isTurned" + of, atlas.isTurned(s), model.isTurned(s));
        compare("recordOf" + of, atlas.recordOf(s), model.recordOf(s));
    }

    private void askPage() {
        int p = page(), x = number(0, mostSide / 2), y = number(0, mostSide / 2);
        int index = number(0, Math.max(model.freeRectangles(p), 1) - 1);
        String of = "(" + p + ")", at = "(" + p + "," + x + "," + y + ")", rectangle = "(" + p + "," + index + ")";
        compare("pages()", atlas.pages(), model.pages());
        compare("pixel" + at, atlas.pixel(p, x, y), model.pixel(p, x, y));
        compare("spriteAt" + at, atlas.spriteAt(p, x, y), model.spriteAt(p, x, y));
        compare("usedWidth" + of, atlas.usedWidth(p), model.usedWidth(p));
        compare("usedHeight" + of, atlas.usedHeight(p), model.usedHeight(p));
        compare("freeRectangles" + of, atlas.freeRectangles(p), model.freeRectangles(p));
        compare("freeX" + rectangle, atlas.freeX(p, index), model.freeX(p, index));
        compare("freeY" + rectangle, atlas.freeY(p, index), model.freeY(p, index));
        compare("freeWidth" + rectangle, atlas.freeWidth(p, index), model.freeWidth(p, index));
        compare("freeHeight" + rectangle, atlas.freeHeight(p, index), model.freeHeight(p, index));
        compare("fill" + of, atlas.fill(p, false), model.fill(p, false));
        compare("fill" + of, atlas.fill(p, true), model.fill(p, true));
    }

    private void analyze() {
        compare("unplaced()", atlas.unplaced(), model.unplaced());
        compare("pageBound()", atlas.pageBound(), model.pageBound());
        if (random.nextInt(mostSide < 20 ? 4 : 20) == 0) {
            compare("bestMethod()", atlas.bestMethod(), model.bestMethod());
        }
        if (random.nextInt(12) == 0) {
            compare("smallestPage()", atlas.smallestPage(), model.smallestPage());
        }
        compare("checksum()", atlas.checksum(), model.checksum());
    }

    private void keepAndPrint() {
        int s = sprite(), slot = number(0, 1);
        compare("print(" + s + ")", atlas.print(s), model.print(s));
        for (int i = -1; i <= model.output.length(); i++) {
            compare("printed(" + i + ")", atlas.printed(i), model.printed(i));
        }
        int kind = random.nextInt(8);
        if (kind < 3) {
            compare("keep(" + slot + ")", atlas.keep(slot), model.keep(slot));
        } else if (kind == 3) {
            compare("restore(" + slot + ")", atlas.restore(slot), model.restore(slot));
        }
    }
}
