import java.util.Arrays;

/** A texture atlas packer. README.md tells how to use it, NOTES.md how it is built. */
public final class SpriteAtlas {
    public static final int BAD_VALUE = -1;
    public static final int FULL = -2;
    public static final int NOT_POSSIBLE = -3;
    public static final int NONE = -4;
    public static final int NEVER = 0, EXACT = 1, TURNED = 2, ANY = 3;
    public static final int BY_NUMBER = 0, BY_AREA = 1, BY_SIDE = 2, BY_HEIGHT = 3;
    public static final int SHORT_SIDE = 0, LONG_SIDE = 1, AREA = 2, TOP_LEFT = 3;

    private static final int MOST_SPRITES = 24;
    private static final int MOST_IMAGE_SIDE = 8;
    private static final int MOST_COLOR = 9;
    private static final int MOST_GROUP = 3;
    private static final int MOST_TEXT = 160;
    private static final int LEAST_CODE = 32;
    private static final int MOST_CODE = 126;
    private static final int MOST_DRAWN = 8;
    private static final int LEAST_PAGE_SIDE = 4;
    private static final int MOST_PAGE_SIDE = 32;
    private static final int MOST_PAGES = 4;
    private static final int MOST_PADDING = 3;
    private static final int MOST_BORDER = 3;
    private static final int MOST_EXTRUSION = 2;
    private static final int MOST_FIELD_SIDE = MOST_PAGE_SIDE + MOST_PADDING;
    private static final int ORIENTATIONS = 8;
    private static final int MOST_STATES = 5;
    private static final int SLOTS = 2;
    // With n boxes there are at most n * (n - 1) / 2 + 3 * n + 1 free rectangles; NOTES.md has the proof.
    private static final int MOST_FREE = MOST_SPRITES * (MOST_SPRITES - 1) / 2 + 3 * MOST_SPRITES + 1;
    // More than packingCost() answers for any packing.
    private static final long BEYOND_COSTS = 1000000000L;

    private final Text text = new Text();
    private final StringBuilder output = new StringBuilder();
    private final State now;
    private final State trial;
    private final Catalog catalog;
    private final Packer packer;
    private final Packer trialPacker;
    private final History history = new History();
    private final State firstSlot = new State();
    private final State secondSlot = new State();
    private final boolean[] slotFilled = new boolean[SLOTS];
    private long randomState;

    public SpriteAtlas() {
        State current = new State();
        State other = new State();
        Catalog findings = new Catalog();
        now = current;
        trial = other;
        catalog = findings;
        packer = new Packer(current, findings);
        trialPacker = new Packer(other, findings);
    }

    // ---- sprites

    public int append(int character) {
        if (!isWithin(character, LEAST_CODE, MOST_CODE)) {
            return BAD_VALUE;
        }
        return text.add(character) ? text.length : FULL;
    }

    public int clearText() {
        int previous = text.length;
        text.length = 0;
        return previous;
    }

    public int faultPosition() {
        return text.findFault();
    }

    public int read() {
        if (text.findFault() != NONE) {
            return NOT_POSSIBLE;
        }
        if (now.sheet.count + text.countImages() > MOST_SPRITES) {
            return FULL;
        }
        history.record(now);
        text.addImagesTo(now.sheet);
        catalog.study(now.sheet, now.settings);
        return now.sheet.count;
    }

    public int draw(int start, int n) {
        if (start < 0 || !isWithin(n, 1, MOST_DRAWN)) {
            return BAD_VALUE;
        }
        if (now.sheet.count + n > MOST_SPRITES) {
            return FULL;
        }
        history.record(now);
        randomState = start;
        for (int i = 0; i < n; i++) {
            drawOne();
        }
        catalog.study(now.sheet, now.settings);
        return now.sheet.count;
    }

    public int sprites() {
        return now.sheet.count;
    }

    public int width(int sprite) {
        return now.sheet.has(sprite) ? now.sheet.widths[sprite] : BAD_VALUE;
    }

    public int height(int sprite) {
        return now.sheet.has(sprite) ? now.sheet.heights[sprite] : BAD_VALUE;
    }

    public int color(int sprite, int x, int y) {
        return now.sheet.hasPixel(sprite, x, y) ? now.sheet.colorAt(sprite, x, y) : BAD_VALUE;
    }

    public int setPixel(int sprite, int x, int y, int color) {
        if (!now.sheet.hasPixel(sprite, x, y) || !isWithin(color, 0, MOST_COLOR)) {
            return BAD_VALUE;
        }
        int previous = now.sheet.colorAt(sprite, x, y);
        history.record(now);
        now.sheet.setColor(sprite, x, y, color);
        emptyAtlas();
        return previous;
    }

    public int drop(int sprite) {
        if (!now.sheet.has(sprite)) {
            return BAD_VALUE;
        }
        history.record(now);
        now.sheet.remove(sprite);
        emptyAtlas();
        return now.sheet.count;
    }

    public int setGroup(int sprite, int group) {
        if (!now.sheet.has(sprite) || !isWithin(group, 0, MOST_GROUP)) {
            return BAD_VALUE;
        }
        int previous = now.sheet.groups[sprite];
        history.record(now);
        now.sheet.groups[sprite] = group;
        return previous;
    }

    public int groupOf(int sprite) {
        return now.sheet.has(sprite) ? now.sheet.groups[sprite] : BAD_VALUE;
    }

    // ---- trimmed images and copies

    public int trimLeft(int sprite) {
        return now.sheet.has(sprite) ? catalog.lefts[sprite] : BAD_VALUE;
    }

    public int trimTop(int sprite) {
        return now.sheet.has(sprite) ? catalog.tops[sprite] : BAD_VALUE;
    }

    public int trimWidth(int sprite) {
        return now.sheet.has(sprite) ? catalog.widths[sprite] : BAD_VALUE;
    }

    public int trimHeight(int sprite) {
        return now.sheet.has(sprite) ? catalog.heights[sprite] : BAD_VALUE;
    }

    public int originalOf(int sprite) {
        return now.sheet.has(sprite) ? catalog.originals[sprite] : BAD_VALUE;
    }

    public int orientationOf(int sprite) {
        return now.sheet.has(sprite) ? catalog.orientations[sprite] : BAD_VALUE;
    }

    // ---- settings

    public int setPageSize(int width, int height) {
        if (!isWithin(width, LEAST_PAGE_SIDE, MOST_PAGE_SIDE) || !isWithin(height, LEAST_PAGE_SIDE, MOST_PAGE_SIDE)) {
            return BAD_VALUE;
        }
        int previous = 100 * now.settings.pageWidth + now.settings.pageHeight;
        history.record(now);
        now.settings.pageWidth = width;
        now.settings.pageHeight = height;
        emptyAtlas();
        return previous;
    }

    public int setPageLimit(int pages) {
        if (!isWithin(pages, 1, MOST_PAGES)) {
            return BAD_VALUE;
        }
        int previous = now.settings.pageLimit;
        history.record(now);
        now.settings.pageLimit = pages;
        emptyAtlas();
        return previous;
    }

    public int setMargins(int padding, int border, int extrusion) {
        if (!isWithin(padding, 0, MOST_PADDING) || !isWithin(border, 0, MOST_BORDER)
                || !isWithin(extrusion, 0, MOST_EXTRUSION)) {
            return BAD_VALUE;
        }
        Settings settings = now.settings;
        int previous = 100 * settings.padding + 10 * settings.border + settings.extrusion;
        history.record(now);
        settings.padding = padding;
        settings.border = border;
        settings.extrusion = extrusion;
        emptyAtlas();
        return previous;
    }

    public int setTrimming(boolean on) {
        int previous = asNumber(now.settings.trimming);
        history.record(now);
        now.settings.trimming = on;
        emptyAtlas();
        return previous;
    }

    public int setMatching(int matching) {
        if (!isWithin(matching, NEVER, ANY)) {
            return BAD_VALUE;
        }
        int previous = now.settings.matching;
        history.record(now);
        now.settings.matching = matching;
        emptyAtlas();
        return previous;
    }

    public int setRotation(boolean on) {
        int previous = asNumber(now.settings.rotation);
        history.record(now);
        now.settings.rotation = on;
        emptyAtlas();
        return previous;
    }

    public int setGrouped(boolean on) {
        int previous = asNumber(now.settings.grouped);
        history.record(now);
        now.settings.grouped = on;
        emptyAtlas();
        return previous;
    }

    public int setOrder(int order) {
        if (!isWithin(order, BY_NUMBER, BY_HEIGHT)) {
            return BAD_VALUE;
        }
        int previous = now.settings.order;
        history.record(now);
        now.settings.order = order;
        emptyAtlas();
        return previous;
    }

    public int setWay(int way) {
        if (!isWithin(way, SHORT_SIDE, TOP_LEFT)) {
            return BAD_VALUE;
        }
        int previous = now.settings.way;
        history.record(now);
        now.settings.way = way;
        emptyAtlas();
        return previous;
    }

    // ---- packing

    public int pack() {
        history.record(now);
        return packer.placeAll();
    }

    public int insert(int sprite) {
        if (!now.sheet.has(sprite)) {
            return BAD_VALUE;
        }
        if (!catalog.isOriginal(sprite) || now.places.pages[sprite] != NONE) {
            return NOT_POSSIBLE;
        }
        if (!packer.choose(sprite)) {
            return FULL;
        }
        history.record(now);
        packer.putAsChosen(sprite);
        return now.places.pages[sprite];
    }

    public int unplace(int sprite) {
        if (!now.sheet.has(sprite)) {
            return BAD_VALUE;
        }
        int page = now.places.pages[sprite];
        if (page == NONE) {
            return NOT_POSSIBLE;
        }
        history.record(now);
        now.places.pages[sprite] = NONE;
        packer.survey(page);
        return page;
    }

    public int undo() {
        if (history.count == 0) {
            return NOT_POSSIBLE;
        }
        history.takeBack(now);
        studyAll();
        return history.count;
    }

    // ---- places

    public int pageOf(int sprite) {
        return now.sheet.has(sprite) ? placeOf(sprite) : BAD_VALUE;
    }

    public int xOf(int sprite) {
        if (!now.sheet.has(sprite)) {
            return BAD_VALUE;
        }
        return placeOf(sprite) == NONE ? NONE : packer.imageColumn(catalog.sourceOf(sprite));
    }

    public int yOf(int sprite) {
        if (!now.sheet.has(sprite)) {
            return BAD_VALUE;
        }
        return placeOf(sprite) == NONE ? NONE : packer.imageRow(catalog.sourceOf(sprite));
    }

    public int isTurned(int sprite) {
        if (!now.sheet.has(sprite)) {
            return BAD_VALUE;
        }
        return placeOf(sprite) == NONE ? NONE : asNumber(now.places.turned[catalog.sourceOf(sprite)]);
    }

    public int recordOf(int sprite) {
        if (!now.sheet.has(sprite)) {
            return BAD_VALUE;
        }
        if (placeOf(sprite) == NONE) {
            return NONE;
        }
        int source = catalog.sourceOf(sprite);
        return catalog.findRecord(now.sheet, sprite, source, now.places.turned[source]);
    }

    // ---- pages

    public int pages() {
        return now.places.pageCount;
    }

    public int pixel(int page, int x, int y) {
        return hasPagePixel(page, x, y) ? packer.colorOn(page, x, y) : BAD_VALUE;
    }

    public int spriteAt(int page, int x, int y) {
        return hasPagePixel(page, x, y) ? packer.ownerOf(page, x, y) : BAD_VALUE;
    }

    public int usedWidth(int page) {
        return hasPage(page) ? packer.usedColumns(page) : BAD_VALUE;
    }

    public int usedHeight(int page) {
        return hasPage(page) ? packer.usedRows(page) : BAD_VALUE;
    }

    public int freeRectangles(int page) {
        return hasPage(page) ? packer.space.counts[page] : BAD_VALUE;
    }

    public int freeX(int page, int index) {
        return hasFree(page, index) ? Space.leftIn(packer.space.codeOf(page, index)) : BAD_VALUE;
    }

    public int freeY(int page, int index) {
        return hasFree(page, index) ? Space.topIn(packer.space.codeOf(page, index)) : BAD_VALUE;
    }

    public int freeWidth(int page, int index) {
        return hasFree(page, index) ? Space.widthIn(packer.space.codeOf(page, index)) : BAD_VALUE;
    }

    public int freeHeight(int page, int index) {
        return hasFree(page, index) ? Space.heightIn(packer.space.codeOf(page, index)) : BAD_VALUE;
    }

    public int fill(int page, boolean denominator) {
        if (!hasPage(page)) {
            return BAD_VALUE;
        }
        int part = packer.imagePixels(page);
        int whole = now.settings.pageWidth * now.settings.pageHeight;
        int divisor = commonDivisor(whole, part);
        return (denominator ? whole : part) / divisor;
    }

    // ---- analyses

    public int unplaced() {
        int missing = 0;
        for (int sprite = 0; sprite < now.sheet.count; sprite++) {
            if (catalog.isOriginal(sprite) && now.places.pages[sprite] == NONE) {
                missing++;
            }
        }
        return missing;
    }

    public int pageBound() {
        int needed = packer.boxPositions();
        if (needed == 0) {
            return 0;
        }
        int offered = now.settings.fieldPositions();
        return offered == 0 ? NONE : (needed + offered - 1) / offered;
    }

    public int bestMethod() {
        trial.copyFrom(now);
        int best = 0;
        long bestCost = BEYOND_COSTS;
        for (int order = BY_NUMBER; order <= BY_HEIGHT; order++) {
            for (int way = SHORT_SIDE; way <= TOP_LEFT; way++) {
                trial.settings.order = order;
                trial.settings.way = way;
                long cost = packingCost(trialPacker.placeAll());
                if (cost < bestCost) {
                    bestCost = cost;
                    best = 10 * order + way;
                }
            }
        }
        return best;
    }

    public int smallestPage() {
        trial.copyFrom(now);
        trial.settings.pageLimit = 1;
        trial.settings.grouped = false;
        for (int side = LEAST_PAGE_SIDE; side <= MOST_PAGE_SIDE; side++) {
            trial.settings.pageWidth = side;
            trial.settings.pageHeight = side;
            if (trialPacker.placeAll() == 0) {
                return side;
            }
        }
        return NONE;
    }

    // ---- output, slots, checksum

    public int print(int sprite) {
        if (!now.sheet.has(sprite)) {
            return BAD_VALUE;
        }
        output.setLength(0);
        output.append(sprite);
        output.append(':');
        if (catalog.isBlank(sprite)) {
            output.append(" blank");
        } else if (placeOf(sprite) == NONE) {
            output.append(" unplaced");
        } else {
            printPlace(sprite);
        }
        if (catalog.originals[sprite] != NONE) {
            output.append(" copy of ");
            output.append(catalog.originals[sprite]);
        }
        return output.length();
    }

    public int printed(int index) {
        if (index < 0) {
            return BAD_VALUE;
        }
        return index < output.length() ? output.charAt(index) : NONE;
    }

    public int keep(int slot) {
        if (!isWithin(slot, 0, SLOTS - 1)) {
            return BAD_VALUE;
        }
        slotState(slot).copyFrom(now);
        slotFilled[slot] = true;
        return now.sheet.count;
    }

    public int restore(int slot) {
        if (!isWithin(slot, 0, SLOTS - 1)) {
            return BAD_VALUE;
        }
        if (!slotFilled[slot]) {
            return NOT_POSSIBLE;
        }
        now.copyFrom(slotState(slot));
        history.count = 0;
        studyAll();
        return now.sheet.count;
    }

    public long checksum() {
        long h = mix(19L, now.sheet.count);
        for (int sprite = 0; sprite < now.sheet.count; sprite++) {
            h = mixSprite(h, sprite);
        }
        h = mix(h, now.places.pageCount);
        for (int page = 0; page < now.places.pageCount; page++) {
            h = mixPage(h, page);
        }
        return h;
    }

    // ---- helpers of the public methods

    private static boolean isWithin(int value, int least, int most) {
        return value >= least && value <= most;
    }

    private static int asNumber(boolean on) {
        return on ? 1 : 0;
    }

    /** Never answers less than 1, so that it may divide. */
    private static int commonDivisor(int a, int b) {
        int greater = a;
        int smaller = b;
        for (int step = 0; step < 64 && smaller > 0; step++) {
            int rest = greater % smaller;
            greater = smaller;
            smaller = rest;
        }
        return Math.max(greater, 1);
    }

    private static long mix(long h, long value) {
        return 31L * h + value;
    }

    private boolean hasPage(int page) {
        return isWithin(page, 0, now.places.pageCount - 1);
    }

    private boolean hasPagePixel(int page, int x, int y) {
        return hasPage(page) && isWithin(x, 0, now.settings.pageWidth - 1)
                && isWithin(y, 0, now.settings.pageHeight - 1);
    }

    private boolean hasFree(int page, int index) {
        return hasPage(page) && isWithin(index, 0, packer.space.counts[page] - 1);
    }

    private State slotState(int slot) {
        return slot == 0 ? firstSlot : secondSlot;
    }

    private int placeOf(int sprite) {
        int source = catalog.sourceOf(sprite);
        return source == NONE ? NONE : now.places.pages[source];
    }

    private void studyAll() {
        catalog.study(now.sheet, now.settings);
        for (int page = 0; page < now.places.pageCount; page++) {
            packer.survey(page);
        }
    }

    private void emptyAtlas() {
        now.places.removeAll();
        catalog.study(now.sheet, now.settings);
    }

    private int nextRandom() {
        randomState = (randomState * 1103515245L + 12345L) % 2147483648L;
        return (int) (randomState / 65536L);
    }

    private void drawOne() {
        int wide = nextRandom() % 5 + 1;
        int high = nextRandom() % 5 + 1;
        int sprite = now.sheet.add(wide, high);
        for (int y = 0; y < high; y++) {
            for (int x = 0; x < wide; x++) {
                now.sheet.setColor(sprite, x, y, Math.max(nextRandom() % 6 - 2, 0));
            }
        }
    }

    /** Orders packings as bestMethod() does: all used areas together stay below 10,000, the pages below 10. */
    private long packingCost(int missing) {
        long areas = 0L;
        for (int page = 0; page < trial.places.pageCount; page++) {
            areas += trialPacker.usedColumns(page) * trialPacker.usedRows(page);
        }
        return (missing * 10L + trial.places.pageCount) * 10000L + areas;
    }

    private void printPlace(int sprite) {
        output.append(" page ");
        output.append(pageOf(sprite));
        output.append(" at ");
        output.append(xOf(sprite));
        output.append(',');
        output.append(yOf(sprite));
        output.append(" size ");
        output.append(catalog.widths[sprite]);
        output.append('x');
        output.append(catalog.heights[sprite]);
        output.append(" record ");
        output.append(recordOf(sprite));
    }

    private long mixSprite(long start, int sprite) {
        long h = mix(mix(start, width(sprite)), height(sprite));
        for (int y = 0; y < height(sprite); y++) {
            for (int x = 0; x < width(sprite); x++) {
                h = mix(h, color(sprite, x, y));
            }
        }
        h = mix(h, groupOf(sprite));
        h = mix(mix(h, trimLeft(sprite)), trimTop(sprite));
        h = mix(mix(h, trimWidth(sprite)), trimHeight(sprite));
        h = mix(mix(h, originalOf(sprite)), orientationOf(sprite));
        h = mix(mix(mix(h, pageOf(sprite)), xOf(sprite)), yOf(sprite));
        return mix(mix(h, isTurned(sprite)), recordOf(sprite));
    }

    private long mixPage(long start, int page) {
        long h = mix(mix(start, usedWidth(page)), usedHeight(page));
        h = mix(h, freeRectangles(page));
        for (int y = 0; y < now.settings.pageHeight; y++) {
            for (int x = 0; x < now.settings.pageWidth; x++) {
                h = mix(h, packer.colorOn(page, x, y));
            }
        }
        return h;
    }

    // ---- the parts

    /** The text buffer. */
    private static final class Text {
        final int[] codes = new int[MOST_TEXT];
        int length;

        boolean add(int code) {
            if (length >= MOST_TEXT) {
                return false;
            }
            codes[length] = code;
            length++;
            return true;
        }

        int findFault() {
            int row = 0;
            int column = 0;
            int wide = MOST_IMAGE_SIDE;
            for (int i = 0; i < length; i++) {
                int code = codes[i];
                boolean rowMayEnd = column > 0 && (row == 0 || column == wide);
                if (isDigit(code) && column < wide) {
                    column++;
                } else if (code == '/' && rowMayEnd && row < MOST_IMAGE_SIDE - 1) {
                    wide = column;
                    column = 0;
                    row++;
                } else if (code == ';' && rowMayEnd) {
                    wide = MOST_IMAGE_SIDE;
                    column = 0;
                    row = 0;
                } else {
                    return i;
                }
            }
            return row == 0 && column == 0 ? NONE : length;
        }

        int countImages() {
            int images = 0;
            for (int i = 0; i < length; i++) {
                if (codes[i] == ';') {
                    images++;
                }
            }
            return images;
        }

        /** For a text without a fault. */
        void addImagesTo(Sheet sheet) {
            int start = 0;
            for (int i = 0; i < length; i++) {
                if (codes[i] == ';') {
                    addImage(sheet, start, i);
                    start = i + 1;
                }
            }
        }

        private void addImage(Sheet sheet, int start, int end) {
            int wide = 0;
            while (start + wide < end && isDigit(codes[start + wide])) {
                wide++;
            }
            int high = (end - start + 1) / (wide + 1);
            int sprite = sheet.add(wide, high);
            for (int i = start; i < end; i++) {
                if (isDigit(codes[i])) {
                    int place = i - start;
                    sheet.setColor(sprite, place % (wide + 1), place / (wide + 1), codes[i] - '0');
                }
            }
        }

        private static boolean isDigit(int code) {
            return code >= '0' && code <= '9';
        }
    }

    /** The sprites: their images and groups. */
    private static final class Sheet {
        int count;
        final int[] widths = new int[MOST_SPRITES];
        final int[] heights = new int[MOST_SPRITES];
        final int[] groups = new int[MOST_SPRITES];
        // A row of an image is one number, four bits a pixel, the left pixel lowest: states are copied often.
        final int[] rows = new int[MOST_SPRITES * MOST_IMAGE_SIDE];

        boolean has(int sprite) {
            return sprite >= 0 && sprite < count;
        }

        boolean hasPixel(int sprite, int x, int y) {
            return has(sprite) && x >= 0 && x < widths[sprite] && y >= 0 && y < heights[sprite];
        }

        int colorAt(int sprite, int x, int y) {
            int place = sprite * MOST_IMAGE_SIDE + y;
            return place >= 0 && place < rows.length ? (rows[place] >>> (4 * x)) & 15 : 0;
        }

        int rowOf(int sprite, int y) {
            int place = sprite * MOST_IMAGE_SIDE + y;
            return place >= 0 && place < rows.length ? rows[place] : 0;
        }

        void setColor(int sprite, int x, int y, int color) {
            if (hasPixel(sprite, x, y)) {
                int place = sprite * MOST_IMAGE_SIDE + y;
                rows[place] = rows[place] & ~(15 << (4 * x)) | (color << (4 * x));
            }
        }

        /** Adds a transparent image; answers its number, NONE if there is no room. */
        int add(int wide, int high) {
            if (count >= MOST_SPRITES) {
                return NONE;
            }
            int sprite = count;
            count++;
            widths[sprite] = wide;
            heights[sprite] = high;
            groups[sprite] = 0;
            int start = sprite * MOST_IMAGE_SIDE;
            Arrays.fill(rows, start, start + MOST_IMAGE_SIDE, 0);
            return sprite;
        }

        void remove(int sprite) {
            if (!has(sprite)) {
                return;
            }
            int moved = count - sprite - 1;
            System.arraycopy(widths, sprite + 1, widths, sprite, moved);
            System.arraycopy(heights, sprite + 1, heights, sprite, moved);
            System.arraycopy(groups, sprite + 1, groups, sprite, moved);
            int start = sprite * MOST_IMAGE_SIDE;
            System.arraycopy(rows, start + MOST_IMAGE_SIDE, rows, start, moved * MOST_IMAGE_SIDE);
            count--;
        }

        void copyFrom(Sheet other) {
            count = other.count;
            System.arraycopy(other.widths, 0, widths, 0, MOST_SPRITES);
            System.arraycopy(other.heights, 0, heights, 0, MOST_SPRITES);
            System.arraycopy(other.groups, 0, groups, 0, MOST_SPRITES);
            System.arraycopy(other.rows, 0, rows, 0, MOST_SPRITES * MOST_IMAGE_SIDE);
        }
    }

    private static final class Settings {
        int pageWidth = 16;
        int pageHeight = 16;
        int pageLimit = 2;
        int padding;
        int border;
        int extrusion;
        boolean trimming = true;
        int matching = EXACT;
        boolean rotation;
        boolean grouped;
        int order = BY_NUMBER;
        int way = SHORT_SIDE;

        int fieldWidth() {
            return pageWidth - 2 * border + padding;
        }

        int fieldHeight() {
            return pageHeight - 2 * border + padding;
        }

        int fieldPositions() {
            return Math.max(fieldWidth(), 0) * Math.max(fieldHeight(), 0);
        }

        /** By how much a box is wider, and higher, than its image. */
        int boxGrowth() {
            return 2 * extrusion + padding;
        }

        int matchedOrientations() {
            if (matching == NEVER) {
                return 0;
            }
            if (matching == EXACT) {
                return 1;
            }
            return matching == TURNED ? 4 : ORIENTATIONS;
        }

        void copyFrom(Settings other) {
            pageWidth = other.pageWidth;
            pageHeight = other.pageHeight;
            pageLimit = other.pageLimit;
            padding = other.padding;
            border = other.border;
            extrusion = other.extrusion;
            trimming = other.trimming;
            matching = other.matching;
            rotation = other.rotation;
            grouped = other.grouped;
            order = other.order;
            way = other.way;
        }
    }

    /** The atlas: the number of its pages, their groups, and the box of each original that is placed. */
    private static final class Places {
        int pageCount;
        final int[] pageGroups = new int[MOST_PAGES];
        // The page of an original, NONE if it is not placed; the rest is for placed originals only.
        final int[] pages = new int[MOST_SPRITES];
        final int[] columns = new int[MOST_SPRITES];
        final int[] rows = new int[MOST_SPRITES];
        final boolean[] turned = new boolean[MOST_SPRITES];

        Places() {
            Arrays.fill(pages, NONE);
        }

        void removeAll() {
            pageCount = 0;
            Arrays.fill(pages, NONE);
        }

        boolean isEmptyPage(int page) {
            for (int sprite = 0; sprite < MOST_SPRITES; sprite++) {
                if (pages[sprite] == page) {
                    return false;
                }
            }
            return true;
        }

        void copyFrom(Places other) {
            pageCount = other.pageCount;
            System.arraycopy(other.pageGroups, 0, pageGroups, 0, MOST_PAGES);
            System.arraycopy(other.pages, 0, pages, 0, MOST_SPRITES);
            System.arraycopy(other.columns, 0, columns, 0, MOST_SPRITES);
            System.arraycopy(other.rows, 0, rows, 0, MOST_SPRITES);
            System.arraycopy(other.turned, 0, turned, 0, MOST_SPRITES);
        }
    }

    /** All that a change may change, and that undo() and restore() bring back. */
    private static final class State {
        final Sheet sheet = new Sheet();
        final Settings settings = new Settings();
        final Places places = new Places();

        void copyFrom(State other) {
            sheet.copyFrom(other.sheet);
            settings.copyFrom(other.settings);
            places.copyFrom(other.places);
        }
    }

    /** The latest states, in a ring. */
    private static final class History {
        final State[] states = new State[MOST_STATES];
        int latest;
        int count;

        History() {
            for (int i = 0; i < MOST_STATES; i++) {
                states[i] = new State();
            }
        }

        void record(State now) {
            latest = (latest + 1) % MOST_STATES;
            State kept = states[latest];
            if (kept != null) {
                kept.copyFrom(now);
            }
            count = Math.min(count + 1, MOST_STATES);
        }

        void takeBack(State now) {
            State kept = states[latest];
            if (count > 0 && kept != null) {
                now.copyFrom(kept);
                count--;
                latest = (latest + MOST_STATES - 1) % MOST_STATES;
            }
        }
    }

    /** What follows from the images, the trimming and the matching: trim rectangles, originals and copies. */
    private static final class Catalog {
        final int[] lefts = new int[MOST_SPRITES];
        final int[] tops = new int[MOST_SPRITES];
        // 0 if the sprite is blank
        final int[] widths = new int[MOST_SPRITES];
        final int[] heights = new int[MOST_SPRITES];
        // NONE if the sprite is no copy
        final int[] originals = new int[MOST_SPRITES];
        final int[] orientations = new int[MOST_SPRITES];

        void study(Sheet sheet, Settings settings) {
            for (int sprite = 0; sprite < sheet.count; sprite++) {
                if (settings.trimming) {
                    trim(sheet, sprite);
                } else {
                    setTrim(sprite, 0, 0, sheet.widths[sprite], sheet.heights[sprite]);
                }
                findOriginal(sheet, sprite, settings.matchedOrientations());
            }
        }

        boolean isBlank(int sprite) {
            return widths[sprite] == 0;
        }

        boolean isOriginal(int sprite) {
            return !isBlank(sprite) && originals[sprite] == NONE;
        }

        /** The original that stands for a sprite on the pages, itself or another; NONE if it is blank. */
        int sourceOf(int sprite) {
            if (isBlank(sprite)) {
                return NONE;
            }
            return originals[sprite] == NONE ? sprite : originals[sprite];
        }

        int findRecord(Sheet sheet, int sprite, int source, boolean turned) {
            for (int q = 0; q < ORIENTATIONS; q++) {
                if (matches(sheet, sprite, source, turned ? afterTurn(q) : q)) {
                    return q;
                }
            }
            return NONE;
        }

        /** The color in column x and row y of orientation q of the trimmed image. */
        int colorIn(Sheet sheet, int sprite, int q, int x, int y) {
            int lastColumn = widths[sprite] - 1;
            int lastRow = heights[sprite] - 1;
            int turns = q % 4;
            int column = x;
            int row = y;
            if (turns == 1) {
                column = y;
                row = lastRow - x;
            } else if (turns == 2) {
                column = lastColumn - x;
                row = lastRow - y;
            } else if (turns == 3) {
                column = lastColumn - y;
                row = x;
            }
            if (q >= 4) {
                column = lastColumn - column;
            }
            return sheet.colorAt(sprite, lefts[sprite] + column, tops[sprite] + row);
        }

        private void trim(Sheet sheet, int sprite) {
            int top = NONE;
            int bottom = NONE;
            int columns = 0;
            for (int y = 0; y < sheet.heights[sprite]; y++) {
                int row = sheet.rowOf(sprite, y);
                if (row != 0) {
                    top = top == NONE ? y : top;
                    bottom = y;
                    columns |= row;
                }
            }
            if (columns == 0) {
                setTrim(sprite, NONE, NONE, 0, 0);
                return;
            }
            int left = MOST_IMAGE_SIDE;
            int right = 0;
            for (int x = 0; x < MOST_IMAGE_SIDE; x++) {
                if (((columns >>> (4 * x)) & 15) != 0) {
                    left = Math.min(left, x);
                    right = x;
                }
            }
            setTrim(sprite, left, top, right - left + 1, bottom - top + 1);
        }

        private void setTrim(int sprite, int left, int top, int wide, int high) {
            lefts[sprite] = left;
            tops[sprite] = top;
            widths[sprite] = wide;
            heights[sprite] = high;
        }

        private void findOriginal(Sheet sheet, int sprite, int orientationLimit) {
            originals[sprite] = NONE;
            orientations[sprite] = NONE;
            if (isBlank(sprite)) {
                return;
            }
            for (int other = 0; other < sprite; other++) {
                for (int q = 0; q < orientationLimit && isOriginal(other); q++) {
                    if (matches(sheet, sprite, other, q)) {
                        originals[sprite] = other;
                        orientations[sprite] = q;
                        return;
                    }
                }
            }
        }

        /** Whether the trimmed image of a sprite is orientation q of that of another one. */
        private boolean matches(Sheet sheet, int sprite, int other, int q) {
            boolean sideways = q % 2 == 1;
            int wide = sideways ? heights[other] : widths[other];
            int high = sideways ? widths[other] : heights[other];
            if (widths[sprite] != wide || heights[sprite] != high) {
                return false;
            }
            for (int y = 0; y < high; y++) {
                for (int x = 0; x < wide; x++) {
                    if (colorIn(sheet, sprite, 0, x, y) != colorIn(sheet, other, q, x, y)) {
                        return false;
                    }
                }
            }
            return true;
        }

        /** The orientation that orientation q of orientation 1 is: a mirror makes of a turn one the other way. */
        private static int afterTurn(int q) {
            return q < 4 ? (q + 1) % 4 : 4 + (q + 3) % 4;
        }
    }

    /** The free rectangles of the pages, each written as one number, so that numbers ascend as rectangles do. */
    private static final class Space {
        // Bit x of row y tells whether the position in column x and row y is free, on the page that is surveyed.
        final long[] freeRows = new long[MOST_FIELD_SIDE];
        int width;
        int height;
        final int[] codes = new int[MOST_PAGES * MOST_FREE];
        final int[] counts = new int[MOST_PAGES];

        static int code(int left, int top, int wide, int high) {
            return (top << 18) | (left << 12) | (wide << 6) | high;
        }

        static int topIn(int code) {
            return code >> 18;
        }

        static int leftIn(int code) {
            return (code >> 12) & 63;
        }

        static int widthIn(int code) {
            return (code >> 6) & 63;
        }

        static int heightIn(int code) {
            return code & 63;
        }

        int codeOf(int page, int index) {
            return codes[page * MOST_FREE + index];
        }

        /** Starts a survey with a field without boxes. */
        void open(int fieldWidth, int fieldHeight) {
            width = Math.max(fieldWidth, 0);
            height = Math.min(Math.max(fieldHeight, 0), MOST_FIELD_SIDE);
            Arrays.fill(freeRows, 0, height, (1L << width) - 1L);
        }

        void block(int left, int top, int wide, int high) {
            long box = ((1L << wide) - 1L) << left;
            for (int row = Math.max(top, 0); row < top + high && row < height; row++) {
                freeRows[row] &= ~box;
            }
        }

        /** Ends a survey: finds the free rectangles between each two rows. */
        void collect(int page) {
            counts[page] = 0;
            for (int top = 0; top < height; top++) {
                long above = top == 0 ? 0L : freeRows[top - 1];
                long open = freeRows[top];
                // Once all of it is free above too, no rectangle can begin at this row, however far it reaches down.
                for (int bottom = top; bottom < height && (open & ~above) != 0L; bottom++) {
                    long below = bottom + 1 < height ? freeRows[bottom + 1] : 0L;
                    if ((open & ~below) != 0L) {
                        collectRuns(page, top, bottom - top + 1, open, ~above, ~below);
                    }
                    open &= below;
                }
            }
        }

        /** Keeps those runs of open columns that are stopped above and below. */
        private void collectRuns(int page, int top, int high, long open, long stopAbove, long stopBelow) {
            long rest = open;
            for (int i = 0; i < MOST_FIELD_SIDE && rest != 0L; i++) {
                long lowest = rest & -rest;
                long run = rest & ~(rest + lowest);
                if ((run & stopAbove) != 0L && (run & stopBelow) != 0L) {
                    addSorted(page, code(Long.bitCount(lowest - 1L), top, Long.bitCount(run), high));
                }
                rest &= ~run;
            }
        }

        private void addSorted(int page, int code) {
            int start = page * MOST_FREE;
            int place = counts[page];
            if (place >= MOST_FREE) {
                return;
            }
            while (place > 0 && codes[start + place - 1] > code) {
                codes[start + place] = codes[start + place - 1];
                place--;
            }
            codes[start + place] = code;
            counts[page]++;
        }
    }

    /** The best place found so far for an original. */
    private static final class Choice {
        boolean found;
        int page;
        int column;
        int row;
        boolean turned;
        int firstValue;
        int secondValue;

        void startOn(int candidatePage) {
            found = false;
            page = candidatePage;
        }

        /** An offer that is no better than an earlier one is not taken. */
        void offer(int code, boolean boxTurned, int first, int second) {
            boolean better = first < firstValue || first == firstValue && second < secondValue;
            if (found && !better) {
                return;
            }
            found = true;
            column = Space.leftIn(code);
            row = Space.topIn(code);
            turned = boxTurned;
            firstValue = first;
            secondValue = second;
        }
    }

    /** Places originals on the pages of a state, and measures those pages. */
    private static final class Packer {
        final State state;
        final Catalog catalog;
        final Space space = new Space();
        final Choice choice = new Choice();
        final int[] line = new int[MOST_SPRITES];

        Packer(State packed, Catalog findings) {
            state = packed;
            catalog = findings;
        }

        /** Packs; answers how many originals are not placed. */
        int placeAll() {
            state.places.removeAll();
            int waiting = lineUp();
            int missing = 0;
            for (int i = 0; i < waiting; i++) {
                if (choose(line[i])) {
                    putAsChosen(line[i]);
                } else {
                    missing++;
                }
            }
            return missing;
        }

        /** Chooses a place for an original, without placing it; answers whether there is one. */
        boolean choose(int sprite) {
            for (int page = 0; page < state.places.pageCount; page++) {
                if (isOpenTo(page, sprite) && chooseOn(page, sprite)) {
                    return true;
                }
            }
            return state.places.pageCount < state.settings.pageLimit && chooseOnNewPage(sprite);
        }

        void putAsChosen(int sprite) {
            Places places = state.places;
            int page = choice.page;
            if (places.isEmptyPage(page)) {
                places.pageGroups[page] = state.sheet.groups[sprite];
            }
            places.pageCount = Math.max(places.pageCount, page + 1);
            places.pages[sprite] = page;
            places.columns[sprite] = choice.column;
            places.rows[sprite] = choice.row;
            places.turned[sprite] = choice.turned;
            survey(page);
        }

        /** Finds the free rectangles of a page anew; needed whenever its boxes have changed. */
        void survey(int page) {
            Places places = state.places;
            space.open(state.settings.fieldWidth(), state.settings.fieldHeight());
            for (int sprite = 0; sprite < state.sheet.count; sprite++) {
                if (places.pages[sprite] == page) {
                    boolean turned = places.turned[sprite];
                    space.block(places.columns[sprite], places.rows[sprite],
                            boxWidth(sprite, turned), boxHeight(sprite, turned));
                }
            }
            space.collect(page);
        }

        int imageColumn(int sprite) {
            return state.places.columns[sprite] + state.settings.border + state.settings.extrusion;
        }

        int imageRow(int sprite) {
            return state.places.rows[sprite] + state.settings.border + state.settings.extrusion;
        }

        /** The original to whose image with its extrusion a pixel belongs; NONE if there is none. */
        int ownerOf(int page, int x, int y) {
            int extrusion = state.settings.extrusion;
            for (int sprite = 0; sprite < state.sheet.count; sprite++) {
                if (state.places.pages[sprite] == page) {
                    int column = x - imageColumn(sprite);
                    int row = y - imageRow(sprite);
                    if (column >= -extrusion && column < imageWidth(sprite) + extrusion
                            && row >= -extrusion && row < imageHeight(sprite) + extrusion) {
                        return sprite;
                    }
                }
            }
            return NONE;
        }

        int colorOn(int page, int x, int y) {
            int sprite = ownerOf(page, x, y);
            if (sprite == NONE) {
                return 0;
            }
            int column = Math.max(0, Math.min(x - imageColumn(sprite), imageWidth(sprite) - 1));
            int row = Math.max(0, Math.min(y - imageRow(sprite), imageHeight(sprite) - 1));
            return catalog.colorIn(state.sheet, sprite, state.places.turned[sprite] ? 1 : 0, column, row);
        }

        int usedColumns(int page) {
            int used = state.settings.border;
            for (int sprite = 0; sprite < state.sheet.count; sprite++) {
                if (state.places.pages[sprite] == page) {
                    used = Math.max(used, imageColumn(sprite) + imageWidth(sprite) + state.settings.extrusion);
                }
            }
            return used + state.settings.border;
        }

        int usedRows(int page) {
            int used = state.settings.border;
            for (int sprite = 0; sprite < state.sheet.count; sprite++) {
                if (state.places.pages[sprite] == page) {
                    used = Math.max(used, imageRow(sprite) + imageHeight(sprite) + state.settings.extrusion);
                }
            }
            return used + state.settings.border;
        }

        int imagePixels(int page) {
            int pixels = 0;
            for (int sprite = 0; sprite < state.sheet.count; sprite++) {
                if (state.places.pages[sprite] == page) {
                    pixels += catalog.widths[sprite] * catalog.heights[sprite];
                }
            }
            return pixels;
        }

        /** The positions of the upright boxes of all originals together. */
        int boxPositions() {
            int positions = 0;
            for (int sprite = 0; sprite < state.sheet.count; sprite++) {
                if (catalog.isOriginal(sprite)) {
                    positions += boxWidth(sprite, false) * boxHeight(sprite, false);
                }
            }
            return positions;
        }

        /** Puts the originals in the line by the order; answers their number. */
        private int lineUp() {
            int length = 0;
            for (int sprite = 0; sprite < state.sheet.count; sprite++) {
                if (catalog.isOriginal(sprite)) {
                    int place = length;
                    while (place > 0 && rankOf(line[place - 1]) < rankOf(sprite)) {
                        line[place] = line[place - 1];
                        place--;
                    }
                    line[place] = sprite;
                    length++;
                }
            }
            return length;
        }

        /** The higher the rank, the earlier a sprite is placed. */
        private int rankOf(int sprite) {
            int wide = catalog.widths[sprite];
            int high = catalog.heights[sprite];
            switch (state.settings.order) {
                case BY_AREA:
                    return wide * high;
                case BY_SIDE:
                    return 10 * Math.max(wide, high) + Math.min(wide, high);
                case BY_HEIGHT:
                    return 10 * high + wide;
                default:
                    return 0;
            }
        }

        private boolean isOpenTo(int page, int sprite) {
            return !state.settings.grouped || state.places.pageGroups[page] == state.sheet.groups[sprite]
                    || state.places.isEmptyPage(page);
        }

        private boolean chooseOn(int page, int sprite) {
            choice.startOn(page);
            for (int index = 0; index < space.counts[page]; index++) {
                offerBoth(space.codeOf(page, index), sprite);
            }
            return choice.found;
        }

        private boolean chooseOnNewPage(int sprite) {
            choice.startOn(state.places.pageCount);
            if (state.settings.fieldPositions() > 0) {
                offerBoth(Space.code(0, 0, state.settings.fieldWidth(), state.settings.fieldHeight()), sprite);
            }
            return choice.found;
        }

        private void offerBoth(int code, int sprite) {
            offer(code, sprite, false);
            if (state.settings.rotation) {
                offer(code, sprite, true);
            }
        }

        private void offer(int code, int sprite, boolean turned) {
            int wide = boxWidth(sprite, turned);
            int high = boxHeight(sprite, turned);
            int spareWidth = Space.widthIn(code) - wide;
            int spareHeight = Space.heightIn(code) - high;
            if (spareWidth < 0 || spareHeight < 0) {
                return;
            }
            int smaller = Math.min(spareWidth, spareHeight);
            int greater = Math.max(spareWidth, spareHeight);
            switch (state.settings.way) {
                case LONG_SIDE:
                    choice.offer(code, turned, greater, smaller);
                    break;
                case AREA:
                    choice.offer(code, turned, Space.widthIn(code) * Space.heightIn(code) - wide * high, smaller);
                    break;
                case TOP_LEFT:
                    choice.offer(code, turned, Space.topIn(code) + high, Space.leftIn(code));
                    break;
                default:
                    choice.offer(code, turned, smaller, greater);
            }
        }

        /** The width of the image of an original as it is placed. */
        private int imageWidth(int sprite) {
            return state.places.turned[sprite] ? catalog.heights[sprite] : catalog.widths[sprite];
        }

        private int imageHeight(int sprite) {
            return state.places.turned[sprite] ? catalog.widths[sprite] : catalog.heights[sprite];
        }

        private int boxWidth(int sprite, boolean turned) {
            return (turned ? catalog.heights[sprite] : catalog.widths[sprite]) + state.settings.boxGrowth();
        }

        private int boxHeight(int sprite, boolean turned) {
            return (turned ? catalog.widths[sprite] : catalog.heights[sprite]) + state.settings.boxGrowth();
        }
    }
}
