import java.util.ArrayDeque;
import java.util.ArrayList;
import java.util.Arrays;
import java.util.Comparator;
import java.util.Deque;
import java.util.List;
import java.util.regex.Pattern;

/** The document said once more, as slowly and plainly as can be, to compare SpriteAtlas with. */
final class Model {
    static final int BAD = -1, FULL = -2, NOT_POSSIBLE = -3, NONE = -4;

    static final class Sprite {
        int[][] image;
        int group;
        int page = NONE;
        int boxX, boxY;
        boolean turned;

        Sprite copy() {
            Sprite s = new Sprite();
            s.image = Arrays.stream(image).map(int[]::clone).toArray(int[][]::new);
            s.group = group;
            s.page = page;
            s.boxX = boxX;
            s.boxY = boxY;
            s.turned = turned;
            return s;
        }
    }

    static final class World {
        List<Sprite> sprites = new ArrayList<>();
        List<Integer> pageGroups = new ArrayList<>();
        int pageW = 16, pageH = 16, limit = 2, padding = 0, border = 0, extrusion = 0;
        boolean trimming = true, rotation = false, grouped = false;
        int matching = 1, order = 0, way = 0;
        // found when first asked for, forgotten by every change
        int[] originals;

        World copy() {
            World w = new World();
            sprites.forEach(s -> w.sprites.add(s.copy()));
            w.pageGroups.addAll(pageGroups);
            w.pageW = pageW;
            w.pageH = pageH;
            w.limit = limit;
            w.padding = padding;
            w.border = border;
            w.extrusion = extrusion;
            w.trimming = trimming;
            w.rotation = rotation;
            w.grouped = grouped;
            w.matching = matching;
            w.order = order;
            w.way = way;
            return w;
        }

        int fieldW() {
            return pageW - 2 * border + padding;
        }

        int fieldH() {
            return pageH - 2 * border + padding;
        }
    }

    World w = new World();
    String text = "";
    String output = "";
    Deque<World> history = new ArrayDeque<>();
    World[] slots = new World[2];

    // ---- sprites

    int append(int c) {
        if (c < 32 || c > 126) return BAD;
        if (text.length() == 160) return FULL;
        text += (char) c;
        return text.length();
    }

    int clearText() {
        int n = text.length();
        text = "";
        return n;
    }

    private static final Pattern WHOLE;
    static {
        StringBuilder alternatives = new StringBuilder();
        for (int wide = 1; wide <= 8; wide++) {
            alternatives.append(wide > 1 ? "|" : "");
            alternatives.append("[0-9]{" + wide + "}(/[0-9]{" + wide + "}){0,7};");
        }
        WHOLE = Pattern.compile("(" + alternatives + ")*");
    }

    /** Whether some text of the right form begins with these characters. */
    private static boolean begins(String start) {
        java.util.regex.Matcher m = WHOLE.matcher(start);
        return m.matches() || m.hitEnd();
    }

    int faultPosition() {
        for (int n = 1; n <= text.length(); n++) {
            if (!begins(text.substring(0, n))) return n - 1;
        }
        return WHOLE.matcher(text).matches() ? NONE : text.length();
    }

    int read() {
        if (!WHOLE.matcher(text).matches()) return NOT_POSSIBLE;
        String[] images = text.isEmpty() ? new String[0] : text.split(";");
        if (w.sprites.size() + images.length > 24) return FULL;
        change();
        for (String image : images) {
            Sprite s = new Sprite();
            String[] rows = image.split("/");
            s.image = new int[rows.length][];
            for (int y = 0; y < rows.length; y++) s.image[y] = rows[y].chars().map(c -> c - '0').toArray();
            w.sprites.add(s);
        }
        return w.sprites.size();
    }

    int draw(int start, int n) {
        if (start < 0 || n < 1 || n > 8) return BAD;
        if (w.sprites.size() + n > 24) return FULL;
        change();
        long[] state = {start};
        for (int i = 0; i < n; i++) {
            int wide = random(state) % 5 + 1;
            int high = random(state) % 5 + 1;
            Sprite s = new Sprite();
            s.image = new int[high][wide];
            for (int[] row : s.image) {
                for (int x = 0; x < wide; x++) row[x] = Math.max(0, random(state) % 6 - 2);
            }
            w.sprites.add(s);
        }
        return w.sprites.size();
    }

    private static int random(long[] state) {
        state[0] = (state[0] * 1103515245L + 12345L) % 2147483648L;
        return (int) (state[0] / 65536);
    }

    boolean has(int s) {
        return s >= 0 && s < w.sprites.size();
    }

    int[][] image(int s) {
        return w.sprites.get(s).image;
    }

    int sprites() {
        return w.sprites.size();
    }

    int width(int s) {
        return has(s) ? image(s)[0].length : BAD;
    }

    int height(int s) {
        return has(s) ? image(s).length : BAD;
    }

    int color(int s, int x, int y) {
        if (!has(s) || x < 0 || y < 0 || x >= width(s) || y >= height(s)) return BAD;
        return image(s)[y][x];
    }

    int setPixel(int s, int x, int y, int c) {
        int old = color(s, x, y);
        if (old == BAD || c < 0 || c > 9) return BAD;
        change();
        image(s)[y][x] = c;
        empty();
        return old;
    }

    int drop(int s) {
        if (!has(s)) return BAD;
        change();
        w.sprites.remove(s);
        empty();
        return w.sprites.size();
    }

    int setGroup(int s, int g) {
        if (!has(s) || g < 0 || g > 3) return BAD;
        int old = w.sprites.get(s).group;
        change();
        w.sprites.get(s).group = g;
        return old;
    }

    int groupOf(int s) {
        return has(s) ? w.sprites.get(s).group : BAD;
    }

    // ---- trimming, orientations, copies

    /** Left, top, width, height; null if blank. */
    int[] trim(int s) {
        int[][] image = image(s);
        if (!w.trimming) return new int[] {0, 0, image[0].length, image.length};
        int left = 99, top = 99, right = -1, bottom = -1;
        for (int y = 0; y < image.length; y++) {
            for (int x = 0; x < image[0].length; x++) {
                if (image[y][x] != 0) {
                    left = Math.min(left, x);
                    right = Math.max(right, x);
                    top = Math.min(top, y);
                    bottom = Math.max(bottom, y);
                }
            }
        }
        return right < 0 ? null : new int[] {left, top, right - left + 1, bottom - top + 1};
    }

    int[][] trimmed(int s) {
        int[] t = trim(s);
        int[][] result = new int[t[3]][];
        for (int y = 0; y < t[3]; y++) result[y] = Arrays.copyOfRange(image(s)[t[1] + y], t[0], t[0] + t[2]);
        return result;
    }

    static int[][] mirror(int[][] image) {
        int[][] result = new int[image.length][image[0].length];
        for (int y = 0; y < image.length; y++) {
            for (int x = 0; x < image[0].length; x++) result[y][image[0].length - 1 - x] = image[y][x];
        }
        return result;
    }

    static int[][] clockwise(int[][] image) {
        int[][] result = new int[image[0].length][image.length];
        for (int y = 0; y < image.length; y++) {
            for (int x = 0; x < image[0].length; x++) result[x][image.length - 1 - y] = image[y][x];
        }
        return result;
    }

    static int[][] orient(int[][] image, int q) {
        int[][] result = q >= 4 ? mirror(image) : image;
        for (int i = 0; i < q % 4; i++) result = clockwise(result);
        return result;
    }

    boolean blank(int s) {
        return trim(s) == null;
    }

    int trimLeft(int s) {
        return !has(s) ? BAD : blank(s) ? NONE : trim(s)[0];
    }

    int trimTop(int s) {
        return !has(s) ? BAD : blank(s) ? NONE : trim(s)[1];
    }

    int trimWidth(int s) {
        return !has(s) ? BAD : blank(s) ? 0 : trim(s)[2];
    }

    int trimHeight(int s) {
        return !has(s) ? BAD : blank(s) ? 0 : trim(s)[3];
    }

    int originalOf(int s) {
        if (!has(s)) return BAD;
        if (w.originals == null) w.originals = findOriginals();
        return w.originals[s];
    }

    private int[] findOriginals() {
        int[] result = new int[w.sprites.size()];
        for (int s = 0; s < result.length; s++) {
            result[s] = NONE;
            for (int o = 0; o < s && result[s] == NONE; o++) {
                if (!blank(s) && !blank(o) && result[o] == NONE && between(s, o) >= 0) result[s] = o;
            }
        }
        return result;
    }

    private int between(int s, int o) {
        int allowed = new int[] {0, 1, 4, 8}[w.matching];
        for (int q = 0; q < allowed; q++) {
            if (Arrays.deepEquals(orient(trimmed(o), q), trimmed(s))) return q;
        }
        return -1;
    }

    int orientationOf(int s) {
        if (!has(s)) return BAD;
        int o = originalOf(s);
        return o == NONE ? NONE : between(s, o);
    }

    boolean isOriginal(int s) {
        return !blank(s) && originalOf(s) == NONE;
    }

    // ---- settings

    int setPageSize(int a, int b) {
        if (a < 4 || a > 32 || b < 4 || b > 32) return BAD;
        int old = 100 * w.pageW + w.pageH;
        change();
        w.pageW = a;
        w.pageH = b;
        empty();
        return old;
    }

    int setPageLimit(int n) {
        if (n < 1 || n > 4) return BAD;
        int old = w.limit;
        change();
        w.limit = n;
        empty();
        return old;
    }

    int setMargins(int p, int b, int e) {
        if (p < 0 || p > 3 || b < 0 || b > 3 || e < 0 || e > 2) return BAD;
        int old = 100 * w.padding + 10 * w.border + w.extrusion;
        change();
        w.padding = p;
        w.border = b;
        w.extrusion = e;
        empty();
        return old;
    }

    int setTrimming(boolean on) {
        int old = w.trimming ? 1 : 0;
        change();
        w.trimming = on;
        empty();
        return old;
    }

    int setMatching(int m) {
        if (m < 0 || m > 3) return BAD;
        int old = w.matching;
        change();
        w.matching = m;
        empty();
        return old;
    }

    int setRotation(boolean on) {
        int old = w.rotation ? 1 : 0;
        change();
        w.rotation = on;
        empty();
        return old;
    }

    int setGrouped(boolean on) {
        int old = w.grouped ? 1 : 0;
        change();
        w.grouped = on;
        empty();
        return old;
    }

    int setOrder(int o) {
        if (o < 0 || o > 3) return BAD;
        int old = w.order;
        change();
        w.order = o;
        empty();
        return old;
    }

    int setWay(int v) {
        if (v < 0 || v > 3) return BAD;
        int old = w.way;
        change();
        w.way = v;
        empty();
        return old;
    }

    // ---- changes

    private void change() {
        history.addLast(w.copy());
        w.originals = null;
        if (history.size() > 5) history.removeFirst();
    }

    private void empty() {
        w.pageGroups.clear();
        w.sprites.forEach(s -> s.page = NONE);
    }

    int undo() {
        if (history.isEmpty()) return NOT_POSSIBLE;
        w = history.removeLast();
        return history.size();
    }

    // ---- packing

    int boxW(int s, boolean turned) {
        return (turned ? trimHeight(s) : trimWidth(s)) + 2 * w.extrusion + w.padding;
    }

    int boxH(int s, boolean turned) {
        return (turned ? trimWidth(s) : trimHeight(s)) + 2 * w.extrusion + w.padding;
    }

    /** All maximal free rectangles of a page as x, y, w, h; page -1 is an empty one. */
    List<int[]> freeOf(int page) {
        int fw = Math.max(0, w.fieldW());
        int fh = Math.max(0, w.fieldH());
        int[][] sums = new int[fh + 1][fw + 1];
        for (int y = 0; y < fh; y++) {
            for (int x = 0; x < fw; x++) {
                sums[y + 1][x + 1] = sums[y][x + 1] + sums[y + 1][x] - sums[y][x] + (taken(page, x, y) ? 1 : 0);
            }
        }
        List<int[]> result = new ArrayList<>();
        for (int y = 0; y < fh; y++) {
            for (int x = 0; x < fw; x++) {
                for (int a = 1; x + a <= fw; a++) {
                    for (int b = 1; free(sums, x, y, a, b); b++) {
                        if (!free(sums, x - 1, y, a + 1, b) && !free(sums, x, y - 1, a, b + 1)
                                && !free(sums, x, y, a + 1, b) && !free(sums, x, y, a, b + 1)) {
                            result.add(new int[] {x, y, a, b});
                        }
                    }
                }
            }
        }
        result.sort(Comparator.<int[]>comparingInt(r -> r[1]).thenComparingInt(r -> r[0]).thenComparingInt(r -> r[2]));
        return result;
    }

    private static boolean free(int[][] sums, int x, int y, int a, int b) {
        if (x < 0 || y < 0 || y + b >= sums.length || x + a >= sums[0].length) return false;
        return sums[y + b][x + a] - sums[y][x + a] - sums[y + b][x] + sums[y][x] == 0;
    }

    private boolean taken(int page, int x, int y) {
        if (page < 0) return false;
        for (int i = 0; i < w.sprites.size(); i++) {
            Sprite s = w.sprites.get(i);
            if (s.page == page && x >= s.boxX && y >= s.boxY && x < s.boxX + boxW(i, s.turned)
                    && y < s.boxY + boxH(i, s.turned)) {
                return true;
            }
        }
        return false;
    }

    boolean isEmptyPage(int page) {
        return w.sprites.stream().noneMatch(s -> s.page == page);
    }

    boolean fits(int s, int[] r, boolean turned) {
        return boxW(s, turned) <= r[2] && boxH(s, turned) <= r[3];
    }

    /** Page, x, y, turned; null if there is no place. */
    int[] find(int s) {
        for (int page = 0; page < w.pageGroups.size(); page++) {
            boolean tried = !w.grouped || isEmptyPage(page) || w.pageGroups.get(page) == w.sprites.get(s).group;
            int[] found = tried ? bestOf(s, freeOf(page)) : null;
            if (found != null) return new int[] {page, found[0], found[1], found[2]};
        }
        if (w.pageGroups.size() >= w.limit) return null;
        int[] found = bestOf(s, freeOf(-1));
        return found == null ? null : new int[] {w.pageGroups.size(), found[0], found[1], found[2]};
    }

    private int[] bestOf(int s, List<int[]> rects) {
        List<int[]> pairs = new ArrayList<>();
        for (int i = 0; i < rects.size(); i++) {
            for (int t = 0; t < (w.rotation ? 2 : 1); t++) {
                int[] r = rects.get(i);
                if (fits(s, r, t == 1)) {
                    int a = r[2] - boxW(s, t == 1), b = r[3] - boxH(s, t == 1);
                    int first, second;
                    switch (w.way) {
                        case 0: first = Math.min(a, b); second = Math.max(a, b); break;
                        case 1: first = Math.max(a, b); second = Math.min(a, b); break;
                        case 2: first = r[2] * r[3] - boxW(s, t == 1) * boxH(s, t == 1); second = Math.min(a, b); break;
                        default: first = r[1] + boxH(s, t == 1); second = r[0];
                    }
                    pairs.add(new int[] {first, second, i, t, r[0], r[1]});
                }
            }
        }
        return pairs.stream().min(Arrays::compare).map(p -> new int[] {p[4], p[5], p[3]}).orElse(null);
    }

    private void put(int s, int[] at) {
        if (at[0] == w.pageGroups.size()) w.pageGroups.add(0);
        if (isEmptyPage(at[0])) w.pageGroups.set(at[0], w.sprites.get(s).group);
        Sprite sprite = w.sprites.get(s);
        sprite.page = at[0];
        sprite.boxX = at[1];
        sprite.boxY = at[2];
        sprite.turned = at[3] == 1;
    }

    List<Integer> originals() {
        List<Integer> result = new ArrayList<>();
        for (int s = 0; s < w.sprites.size(); s++) {
            if (isOriginal(s)) result.add(s);
        }
        return result;
    }

    private int packWorld() {
        empty();
        List<Integer> line = originals();
        Comparator<Integer> by;
        switch (w.order) {
            case 1: by = Comparator.comparingInt(s -> -trimWidth(s) * trimHeight(s)); break;
            case 2:
                by = Comparator.<Integer>comparingInt(s -> -Math.max(trimWidth(s), trimHeight(s)))
                        .thenComparingInt(s -> -Math.min(trimWidth(s), trimHeight(s)));
                break;
            case 3:
                by = Comparator.<Integer>comparingInt(s -> -trimHeight(s)).thenComparingInt(s -> -trimWidth(s));
                break;
            default: by = Comparator.comparingInt(s -> s);
        }
        line.sort(by.thenComparingInt(s -> s));
        int missing = 0;
        for (int s : line) {
            int[] at = find(s);
            if (at == null) missing++;
            else put(s, at);
        }
        return missing;
    }

    int pack() {
        change();
        return packWorld();
    }

    int insert(int s) {
        if (!has(s)) return BAD;
        if (!isOriginal(s) || w.sprites.get(s).page != NONE) return NOT_POSSIBLE;
        int[] at = find(s);
        if (at == null) return FULL;
        change();
        put(s, at);
        return at[0];
    }

    int unplace(int s) {
        if (!has(s)) return BAD;
        int page = w.sprites.get(s).page;
        if (!isOriginal(s) || page == NONE) return NOT_POSSIBLE;
        change();
        w.sprites.get(s).page = NONE;
        return page;
    }

    // ---- places

    /** The sprite on the pages that shows a sprite; null if it is not placed. */
    private Sprite shown(int s) {
        int o = originalOf(s);
        Sprite sprite = w.sprites.get(o == NONE ? s : o);
        return sprite.page == NONE ? null : sprite;
    }

    int pageOf(int s) {
        return !has(s) ? BAD : shown(s) == null ? NONE : shown(s).page;
    }

    int xOf(int s) {
        return !has(s) ? BAD : shown(s) == null ? NONE : shown(s).boxX + w.border + w.extrusion;
    }

    int yOf(int s) {
        return !has(s) ? BAD : shown(s) == null ? NONE : shown(s).boxY + w.border + w.extrusion;
    }

    int isTurned(int s) {
        return !has(s) ? BAD : shown(s) == null ? NONE : shown(s).turned ? 1 : 0;
    }

    /** The image that is placed for an original. */
    int[][] placedImage(int s) {
        return orient(trimmed(s), w.sprites.get(s).turned ? 1 : 0);
    }

    int recordOf(int s) {
        if (!has(s)) return BAD;
        if (shown(s) == null) return NONE;
        int[][] placed = placedImage(w.sprites.indexOf(shown(s)));
        for (int q = 0; q < 8; q++) {
            if (Arrays.deepEquals(orient(placed, q), trimmed(s))) return q;
        }
        throw new IllegalStateException("no record");
    }

    // ---- pages

    boolean hasPage(int page) {
        return page >= 0 && page < w.pageGroups.size();
    }

    int pages() {
        return w.pageGroups.size();
    }

    int spriteAt(int page, int x, int y) {
        if (!hasPage(page) || x < 0 || y < 0 || x >= w.pageW || y >= w.pageH) return BAD;
        for (int s = 0; s < w.sprites.size(); s++) {
            if (w.sprites.get(s).page == page) {
                int[][] image = placedImage(s);
                int dx = x - xOf(s), dy = y - yOf(s), e = w.extrusion;
                if (dx >= -e && dy >= -e && dx < image[0].length + e && dy < image.length + e) return s;
            }
        }
        return NONE;
    }

    int pixel(int page, int x, int y) {
        int s = spriteAt(page, x, y);
        if (s == BAD) return BAD;
        if (s == NONE) return 0;
        int[][] image = placedImage(s);
        int best = 999, color = 0;
        for (int py = 0; py < image.length; py++) {
            for (int px = 0; px < image[0].length; px++) {
                int far = Math.abs(x - xOf(s) - px) + Math.abs(y - yOf(s) - py);
                if (far < best) {
                    best = far;
                    color = image[py][px];
                }
            }
        }
        return color;
    }

    /** The pixels of a page: what has an owner; built once a call. */
    int[][] colors(int page) {
        int[][] result = new int[w.pageH][w.pageW];
        for (int s = 0; s < w.sprites.size(); s++) {
            if (w.sprites.get(s).page == page) {
                int[][] image = placedImage(s);
                int e = w.extrusion;
                for (int dy = -e; dy < image.length + e; dy++) {
                    for (int dx = -e; dx < image[0].length + e; dx++) {
                        int px = Math.min(Math.max(dx, 0), image[0].length - 1);
                        int py = Math.min(Math.max(dy, 0), image.length - 1);
                        result[yOf(s) + dy][xOf(s) + dx] = image[py][px];
                    }
                }
            }
        }
        return result;
    }

    int usedWidth(int page) {
        if (!hasPage(page)) return BAD;
        int most = w.border;
        for (int s = 0; s < w.sprites.size(); s++) {
            if (w.sprites.get(s).page == page) most = Math.max(most, xOf(s) + placedImage(s)[0].length + w.extrusion);
        }
        return most + w.border;
    }

    int usedHeight(int page) {
        if (!hasPage(page)) return BAD;
        int most = w.border;
        for (int s = 0; s < w.sprites.size(); s++) {
            if (w.sprites.get(s).page == page) most = Math.max(most, yOf(s) + placedImage(s).length + w.extrusion);
        }
        return most + w.border;
    }

    int freeRectangles(int page) {
        return hasPage(page) ? freeOf(page).size() : BAD;
    }

    private int freePart(int page, int index, int part) {
        if (!hasPage(page)) return BAD;
        List<int[]> all = freeOf(page);
        return index < 0 || index >= all.size() ? BAD : all.get(index)[part];
    }

    int freeX(int page, int index) {
        return freePart(page, index, 0);
    }

    int freeY(int page, int index) {
        return freePart(page, index, 1);
    }

    int freeWidth(int page, int index) {
        return freePart(page, index, 2);
    }

    int freeHeight(int page, int index) {
        return freePart(page, index, 3);
    }

    int fill(int page, boolean denominator) {
        if (!hasPage(page)) return BAD;
        int part = 0;
        for (int s = 0; s < w.sprites.size(); s++) {
            if (w.sprites.get(s).page == page) part += trimWidth(s) * trimHeight(s);
        }
        int whole = w.pageW * w.pageH;
        for (int d = whole; d > 1; d--) {
            if (part % d == 0 && whole % d == 0) {
                part /= d;
                whole /= d;
            }
        }
        return denominator ? whole : part;
    }

    // ---- analyses

    int unplaced() {
        return (int) originals().stream().filter(s -> w.sprites.get(s).page == NONE).count();
    }

    int pageBound() {
        if (originals().isEmpty()) return 0;
        if (w.fieldW() <= 0 || w.fieldH() <= 0) return NONE;
        int sum = 0;
        for (int s : originals()) sum += boxW(s, false) * boxH(s, false);
        int pages = 0;
        while (pages * w.fieldW() * w.fieldH() < sum) pages++;
        return pages;
    }

    int bestMethod() {
        World before = w;
        int[] best = null;
        for (int order = 0; order < 4; order++) {
            for (int way = 0; way < 4; way++) {
                w = before.copy();
                w.order = order;
                w.way = way;
                int missing = packWorld();
                int area = 0;
                for (int page = 0; page < pages(); page++) area += usedWidth(page) * usedHeight(page);
                int[] cost = {missing, pages(), area, order, way};
                if (best == null || Arrays.compare(cost, best) < 0) best = cost;
            }
        }
        w = before;
        return 10 * best[3] + best[4];
    }

    int smallestPage() {
        World before = w;
        int result = NONE;
        for (int n = 4; n <= 32 && result == NONE; n++) {
            w = before.copy();
            w.limit = 1;
            w.grouped = false;
            w.pageW = n;
            w.pageH = n;
            if (packWorld() == 0) result = n;
        }
        w = before;
        return result;
    }

    // ---- output, slots, checksum

    int print(int s) {
        if (!has(s)) return BAD;
        output = s + ":";
        if (blank(s)) output += " blank";
        else if (pageOf(s) == NONE) output += " unplaced";
        else {
            output += " page " + pageOf(s) + " at " + xOf(s) + "," + yOf(s) + " size " + trimWidth(s) + "x"
                    + trimHeight(s) + " record " + recordOf(s);
        }
        if (originalOf(s) != NONE) output += " copy of " + originalOf(s);
        return output.length();
    }

    int printed(int index) {
        return index < 0 ? BAD : index < output.length() ? output.charAt(index) : NONE;
    }

    int keep(int slot) {
        if (slot < 0 || slot > 1) return BAD;
        slots[slot] = w.copy();
        return sprites();
    }

    int restore(int slot) {
        if (slot < 0 || slot > 1) return BAD;
        if (slots[slot] == null) return NOT_POSSIBLE;
        w = slots[slot].copy();
        history.clear();
        return sprites();
    }

    long checksum() {
        List<Integer> v = new ArrayList<>();
        v.add(sprites());
        for (int s = 0; s < sprites(); s++) {
            v.add(width(s));
            v.add(height(s));
            for (int[] row : image(s)) for (int c : row) v.add(c);
            v.addAll(List.of(groupOf(s), trimLeft(s), trimTop(s), trimWidth(s), trimHeight(s)));
            v.addAll(List.of(originalOf(s), orientationOf(s), pageOf(s), xOf(s), yOf(s), isTurned(s), recordOf(s)));
        }
        v.add(pages());
        for (int page = 0; page < pages(); page++) {
            v.addAll(List.of(usedWidth(page), usedHeight(page), freeRectangles(page)));
            for (int[] row : colors(page)) for (int c : row) v.add(c);
        }
        long h = 19;
        for (int value : v) h = 31 * h + value;
        return h;
    }
}
