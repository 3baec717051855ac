import java.util.ArrayList;

/** Walls and what covers them; shared/DOC.md says what each call answers. */
public final class Stuccohand {
    public static final int NONE = -1;
    public static final int LATH = 0, BRICK = 1, STONE = 2;
    public static final int UNCLEAR = 0, RISING = 1, DRIVEN = 2, DEW = 3;

    private static final int MOST_CALLS = 512;
    private static final int LAST_DAY = 2000;
    private static final int MOST_DAYS_AT_ONCE = 100;
    private static final int MOST_WALLS = 10;
    private static final int MOST_STRIPS = 12;
    private static final int MOST_COATS = 6;
    private static final int MOST_MILLIMETRES = 20;
    private static final int MOST_WARMTH = 50;
    private static final int MOST_WIND = 20;
    private static final int MOST_DAMP = 30;
    private static final int FIRST_WARMTH = 10;
    private static final int HOT = 30;
    private static final int COAT_KEYS = 10;
    private static final int SCRATCHED_KEYS = 25;

    private static final int MOST_PROFILES = 10;
    private static final int MOST_DEPTHS = 8;
    private static final int MOST_DEPTH = 100;
    private static final int LONGEST_RUN = 100000;
    private static final int SHORTEST_TILED_RUN = 2000;
    private static final int WIDEST_TILE = 1000;
    private static final int WIDEST_JOINT = 20;

    private static final int PIGMENTS = 10;
    private static final int LONGEST_WINDOW = 3;
    private static final int MOST_PATCHES = 30;
    private static final int CELLS = 48;
    private static final int CELLS_OF_A_ROW = 8;
    private static final long ALL_CELLS = 0xFFFFFFFFFFFFL;
    private static final long FIRST_COLUMN = 0x010101010101L;
    private static final long LAST_COLUMN = 0x808080808080L;

    private static final int HIGHEST_READING = 99;
    private static final int RISING_FALL = 20;
    private static final int RISING_SALTS = 10;
    private static final int DRIVEN_ABOVE = 10;
    private static final int CELLS_OF_A_PIN = 4;
    private static final int LAST_CUSTOM = 5;
    private static final int MOST_PRICE = 100;
    private static final int THINNEST_PAID = 3;

    private static final Plaster[] PLASTERS = Plaster.values();
    private static final Ground[] GROUNDS = Ground.values();

    private final ArrayList<Wall> walls;
    private final Log log;
    private final ArrayList<Profile> profiles;
    private final Fresco fresco;
    private int today;
    private int warmthNow;
    private int windNow;

    public Stuccohand() {
        walls = new ArrayList<>();
        log = new Log();
        profiles = new ArrayList<>();
        fresco = new Fresco();
        today = 0;
        warmthNow = FIRST_WARMTH;
        windNow = 0;
    }

    // ---- walls, coats

    public int wall(int strips, int ground) throws IllegalArgumentException, IllegalStateException {
        if (strips < 1 || strips > MOST_STRIPS) {
            throw new IllegalArgumentException("strips is out of range");
        }
        if (ground < 0 || ground >= GROUNDS.length) {
            throw new IllegalArgumentException("ground is out of range");
        }
        if (walls.size() >= MOST_WALLS) {
            throw new IllegalStateException("there are as many walls as there may be");
        }
        walls.add(new Wall(strips, GROUNDS[ground]));
        return walls.size() - 1;
    }

    public void weather(int warmth, int wind) throws IllegalArgumentException {
        if (warmth < 0 || warmth > MOST_WARMTH) {
            throw new IllegalArgumentException("warmth is out of range");
        }
        if (wind < 0 || wind > MOST_WIND) {
            throw new IllegalArgumentException("wind is out of range");
        }
        warmthNow = warmth;
        windNow = wind;
    }

    public int damp(int wall, int damp) throws IndexOutOfBoundsException, IllegalArgumentException {
        Wall told = wallNumbered(wall);
        if (damp < 0 || damp > MOST_DAMP) {
            throw new IllegalArgumentException("damp is out of range");
        }
        int before = told.dampness;
        told.dampness = damp;
        return before;
    }

    public boolean joint(int wall, int strip) throws IndexOutOfBoundsException {
        Wall told = wallNumbered(wall);
        Strip first = told.stripAt(strip);
        if (first == null || strip >= told.countStrips() - 1) {
            throw new IndexOutOfBoundsException("no such strip, or none next to it");
        }
        boolean before = first.jointPlanned;
        first.jointPlanned = true;
        return before;
    }

    public int coat(int wall, int from, int to, int plaster, int thick)
            throws IndexOutOfBoundsException, IllegalArgumentException, IllegalStateException {
        Wall told = wallNumbered(wall);
        testStrips(told, from, to);
        if (plaster < 0 || plaster >= PLASTERS.length) {
            throw new IllegalArgumentException("plaster is out of range");
        }
        if (thick < 1 || thick > MOST_MILLIMETRES) {
            throw new IllegalArgumentException("thick is out of range");
        }
        Plaster kind = PLASTERS[plaster];
        if (log.isFull() || !told.takes(from, to, kind)) {
            throw new IllegalStateException("the coat is refused");
        }
        log.note(wall, from, to, 1);
        return told.layCoat(from, to, kind, thick, today);
    }

    public int scratch(int wall, int from, int to)
            throws IndexOutOfBoundsException, IllegalArgumentException, IllegalStateException {
        Wall told = wallNumbered(wall);
        testStrips(told, from, to);
        if (!told.isCoatedOn(from, to, today)) {
            throw new IllegalStateException("a strip has no coat of today");
        }
        return told.scratchTops(from, to);
    }

    public int strike(int wall, int strip) throws IndexOutOfBoundsException, IllegalStateException {
        Strip told = stripNumbered(wall, strip);
        if (log.isFull() || told.countCoats() == 0) {
            throw new IllegalStateException("the strip has no coat");
        }
        log.note(wall, strip, strip, -1);
        told.strikeTop();
        return told.countCoats();
    }

    public int pass(int days) throws IllegalArgumentException, IllegalStateException {
        if (days < 1 || days > MOST_DAYS_AT_ONCE) {
            throw new IllegalArgumentException("days is out of range");
        }
        if (days > LAST_DAY - today) {
            throw new IllegalStateException("there are no days behind the last one");
        }
        today += days;
        int dried = 0;
        for (int i = 0; i < walls.size(); i++) {
            dried += walls.get(i).dryFor(days, warmthNow, windNow);
        }
        return dried;
    }

    public int ofCoat(int wall, int strip, int coat, int what)
            throws IndexOutOfBoundsException, IllegalArgumentException {
        Coat told = coatNumbered(wall, strip, coat);
        switch (what) {
            case 0:
                return told.plaster.number;
            case 1:
                return told.thick;
            case 2:
                return told.dayLaid;
            case 3:
                return told.isDry() ? 1 : 0;
            case 4:
                return told.cracked ? 1 : 0;
            case 5:
                return told.scratched ? 1 : 0;
            default:
                throw new IllegalArgumentException("what is out of range");
        }
    }

    public int coatsAnew(int wall, int strip) throws IndexOutOfBoundsException {
        stripNumbered(wall, strip);
        return log.countCoats(wall, strip);
    }

    public char text(int wall, int strip, int coat, int place) throws IndexOutOfBoundsException {
        Coat told = coatNumbered(wall, strip, coat);
        if (place < 0) {
            throw new IndexOutOfBoundsException("place is below 0");
        }
        StringBuilder words = told.inWords();
        return place < words.length() ? words.charAt(place) : (char) 0;
    }

    // ---- mouldings, repeats, tiles

    public int profile(int depth) throws IllegalArgumentException, IllegalStateException {
        testDepth(depth);
        if (profiles.size() >= MOST_PROFILES) {
            throw new IllegalStateException("there are as many profiles as there may be");
        }
        profiles.add(new Profile(depth));
        return profiles.size() - 1;
    }

    public int depth(int profile, int depth)
            throws IndexOutOfBoundsException, IllegalArgumentException, IllegalStateException {
        Profile told = profileNumbered(profile);
        testDepth(depth);
        if (told.isFull()) {
            throw new IllegalStateException("the profile has as many depths as it may have");
        }
        told.append(depth);
        return told.countDepths();
    }

    public float mitre(int profile, int other) throws IndexOutOfBoundsException {
        Profile first = profileNumbered(profile);
        Profile second = profileNumbered(other);
        int places = Math.max(first.countDepths(), second.countDepths());
        float farthest = 0.5f;
        float mostAway = -1f;
        for (int place = 0; place < places; place++) {
            float share = shareOf((float) first.depthAt(place), (float) second.depthAt(place));
            float away = share > 0.5f ? share - 0.5f : 0.5f - share;
            if (away > mostAway) {
                mostAway = away;
                farthest = share;
            }
        }
        return farthest;
    }

    public int fits(int run, int repeat) throws IllegalArgumentException {
        testRepeat(run, repeat);
        return timesNearest(run, repeat);
    }

    public float step(int run, int repeat) throws IllegalArgumentException {
        testRepeat(run, repeat);
        int times = Math.max(1, timesNearest(run, repeat));
        return (float) run / (float) times;
    }

    public int cut(int run, int tile, int joint) throws IllegalArgumentException {
        if (run < SHORTEST_TILED_RUN || run > LONGEST_RUN) {
            throw new IllegalArgumentException("run is out of range");
        }
        if (tile < 1 || tile > WIDEST_TILE) {
            throw new IllegalArgumentException("tile is out of range");
        }
        if (joint < 0 || joint > WIDEST_JOINT) {
            throw new IllegalArgumentException("joint is out of range");
        }
        int besideTile = cutInEnd((run - tile) / 2 - joint, tile, joint);
        int besideJoint = cutInEnd((run - joint) / 2, tile, joint);
        if (besideTile == 0 || besideJoint == 0) {
            return 0;
        }
        return Math.max(besideTile, besideJoint);
    }

    // ---- fresco

    public int window(int pigment, int days) throws IndexOutOfBoundsException, IllegalArgumentException {
        testPigment(pigment);
        if (days < 0 || days > LONGEST_WINDOW) {
            throw new IllegalArgumentException("days is out of range");
        }
        int before = fresco.windowOf(pigment);
        fresco.setWindow(pigment, days);
        return before;
    }

    public int patch(long cells) throws IllegalArgumentException, IllegalStateException {
        if ((cells & ALL_CELLS) == 0L) {
            throw new IllegalArgumentException("no cell of the ground is told");
        }
        if (fresco.countPatches() >= MOST_PATCHES) {
            throw new IllegalStateException("there are as many patches as there may be");
        }
        fresco.layPatch(cells & ALL_CELLS, today);
        return fresco.countPatches() - 1;
    }

    public int paint(int patch, int pigment, long cells, boolean secco)
            throws IndexOutOfBoundsException, IllegalStateException {
        Patch told = patchNumbered(patch);
        testPigment(pigment);
        boolean tooOld = today - told.dayLaid > fresco.windowOf(pigment);
        if (tooOld != secco) {
            throw new IllegalStateException("too old without secco, or not too old with it");
        }
        long painted = cells & told.cells;
        fresco.setColour(painted, pigment, secco);
        return Long.bitCount(painted);
    }

    public int ofCell(int cell, int what) throws IndexOutOfBoundsException, IllegalArgumentException {
        if (cell < 0 || cell >= CELLS) {
            throw new IndexOutOfBoundsException("no such cell");
        }
        switch (what) {
            case 0:
                return fresco.patchWith(cell);
            case 1:
                return fresco.pigmentOn(cell);
            case 2:
                return fresco.isSecco(cell) ? 1 : 0;
            default:
                throw new IllegalArgumentException("what is out of range");
        }
    }

    public int over(int patch) throws IndexOutOfBoundsException {
        Patch told = patchNumbered(patch);
        return fresco.countMetBefore(patch, cellsBeside(told.cells));
    }

    // ---- damp, ceilings, bills

    public int tells(int a, int b, int c, int d, int e, int salts) throws IllegalArgumentException {
        if (!isReading(a) || !isReading(b) || !isReading(c) || !isReading(d) || !isReading(e)) {
            throw new IllegalArgumentException("a reading is out of range");
        }
        if (!isReading(salts)) {
            throw new IllegalArgumentException("salts is out of range");
        }
        boolean falling = a >= b && b >= c && c >= d && d >= e;
        if (falling && a - e >= RISING_FALL && salts >= RISING_SALTS) {
            return RISING;
        }
        int greatestBetween = Math.max(b, Math.max(c, d));
        if (greatestBetween - Math.max(a, e) >= DRIVEN_ABOVE) {
            return DRIVEN;
        }
        return e > Math.max(a, greatestBetween) ? DEW : UNCLEAR;
    }

    public int pins(long loose) {
        long left = loose & ALL_CELLS;
        int needed = 0;
        for (int cell = 0; cell < CELLS; cell++) {
            long field = fieldAround(cell, left);
            needed += (Long.bitCount(field) + CELLS_OF_A_PIN - 1) / CELLS_OF_A_PIN;
            left &= ~field;
        }
        return needed;
    }

    public int bill(int wall, int custom, int price) throws IndexOutOfBoundsException, IllegalArgumentException {
        Wall told = wallNumbered(wall);
        if (custom < 0 || custom > LAST_CUSTOM) {
            throw new IllegalArgumentException("custom is out of range");
        }
        if (price < 1 || price > MOST_PRICE) {
            throw new IllegalArgumentException("price is out of range");
        }
        int due = told.countPaid(custom) * price;
        return custom == 5 ? due + due / 2 : due;
    }

    // ---- what the calls have in common

    private Wall wallNumbered(int wall) {
        if (wall < 0 || wall >= walls.size()) {
            throw new IndexOutOfBoundsException("no such wall");
        }
        return walls.get(wall);
    }

    private Strip stripNumbered(int wall, int strip) {
        Strip found = wallNumbered(wall).stripAt(strip);
        if (found == null) {
            throw new IndexOutOfBoundsException("no such strip");
        }
        return found;
    }

    private Coat coatNumbered(int wall, int strip, int coat) {
        Coat found = stripNumbered(wall, strip).coatAt(coat);
        if (found == null) {
            throw new IndexOutOfBoundsException("no such coat");
        }
        return found;
    }

    private static void testStrips(Wall wall, int from, int to) {
        if (wall.stripAt(from) == null || wall.stripAt(to) == null) {
            throw new IndexOutOfBoundsException("no such strip");
        }
        if (to < from) {
            throw new IllegalArgumentException("to is ahead of from");
        }
    }

    private Profile profileNumbered(int profile) {
        if (profile < 0 || profile >= profiles.size()) {
            throw new IndexOutOfBoundsException("no such profile");
        }
        return profiles.get(profile);
    }

    private static void testDepth(int depth) {
        if (depth < 1 || depth > MOST_DEPTH) {
            throw new IllegalArgumentException("depth is out of range");
        }
    }

    private static float shareOf(float own, float other) {
        float both = own + other;
        return both > 0f ? own / both : 0.5f;
    }

    private static void testRepeat(int run, int repeat) {
        if (run < 1 || run > LONGEST_RUN) {
            throw new IllegalArgumentException("run is out of range");
        }
        if (repeat < 1 || repeat > LONGEST_RUN) {
            throw new IllegalArgumentException("repeat is out of range");
        }
    }

    private static int timesNearest(int run, int repeat) {
        if (repeat < 1 || run < repeat) {
            return 1;
        }
        // The step falls as the times rise, so only the last one not below the repeat
        // and the first one below it can be nearest; whole products keep that exact.
        long fewer = run / repeat;
        long more = fewer + 1;
        long aboveTimesFewer = run - repeat * fewer;
        long belowTimesMore = repeat * more - run;
        return (int) (aboveTimesFewer * more <= belowTimesMore * fewer ? fewer : more);
    }

    /** The width of the cut tile in an end that begins with a tile, 0 without one. */
    private static int cutInEnd(int end, int tile, int joint) {
        int pair = tile + joint;
        if (end < 1 || pair < 1) {
            return 0;
        }
        int left = end % pair;
        return left < tile ? left : 0;
    }

    private static void testPigment(int pigment) {
        if (pigment < 0 || pigment >= PIGMENTS) {
            throw new IndexOutOfBoundsException("no such pigment");
        }
    }

    private Patch patchNumbered(int patch) {
        Patch found = fresco.patchAt(patch);
        if (found == null) {
            throw new IndexOutOfBoundsException("no such patch");
        }
        return found;
    }

    private static boolean hasCell(long cells, int cell) {
        return ((cells >>> cell) & 1L) != 0L;
    }

    private static long cellsBeside(long cells) {
        long up = cells >>> CELLS_OF_A_ROW;
        long down = cells << CELLS_OF_A_ROW;
        // A row's first cell is beside no cell of the row ahead of it, nor its last one of the next.
        long left = (cells & ~FIRST_COLUMN) >>> 1;
        long right = (cells & ~LAST_COLUMN) << 1;
        return (up | down | left | right) & ALL_CELLS;
    }

    private static long fieldAround(int cell, long loose) {
        long field = loose & (1L << cell);
        // A field of at most all cells is whole after as many turns.
        for (int turn = 0; turn < CELLS && field != 0L; turn++) {
            field |= cellsBeside(field) & loose;
        }
        return field;
    }

    private static boolean isReading(int number) {
        return number >= 0 && number <= HIGHEST_READING;
    }

    private enum Plaster {
        LIME(0, "lime", 1, 4, 2),
        GAUGED(1, "gauged", 2, 3, 3),
        GYPSUM(2, "gypsum", 3, 2, 0),
        CEMENT(3, "cement", 4, 3, 5);

        final int number;
        final String word;
        final int hardness;
        final int needOfMillimetre;
        final int shrinkOfMillimetre;

        Plaster(int number, String word, int hardness, int needOfMillimetre, int shrinkOfMillimetre) {
            this.number = number;
            this.word = word;
            this.hardness = hardness;
            this.needOfMillimetre = needOfMillimetre;
            this.shrinkOfMillimetre = shrinkOfMillimetre;
        }
    }

    /** The backgrounds, in the order of their numbers. */
    private enum Ground {
        OF_LATH(2, 20),
        OF_BRICK(3, 30),
        OF_STONE(4, 10);

        final int hardness;
        final int keys;

        Ground(int hardness, int keys) {
            this.hardness = hardness;
            this.keys = keys;
        }
    }

    private static final class Coat {
        final Plaster plaster;
        final int thick;
        final int dayLaid;
        boolean cracked;
        boolean scratched;
        private int points;

        Coat(Plaster plaster, int thick, int dayLaid) {
            this.plaster = plaster;
            this.thick = thick;
            this.dayLaid = dayLaid;
        }

        boolean isDry() {
            return points >= plaster.needOfMillimetre * thick;
        }

        boolean bondsOn(int keys) {
            return plaster.shrinkOfMillimetre * thick <= keys;
        }

        /** Whether it came to be dry by the points. */
        boolean driesBy(int more, int warmth) {
            if (isDry()) {
                return false;
            }
            points += more;
            if (!isDry()) {
                return false;
            }
            if (plaster == Plaster.CEMENT && warmth >= HOT) {
                cracked = true;
            }
            return true;
        }

        int countPaid(int custom) {
            switch (custom) {
                case 2:
                    return thick;
                case 3:
                    return cracked ? 0 : 1;
                case 4:
                    return Math.max(thick, THINNEST_PAID);
                default:
                    return 1;
            }
        }

        StringBuilder inWords() {
            StringBuilder words = new StringBuilder();
            words.append(plaster.word).append(' ').append(thick).append("mm");
            if (isDry()) {
                words.append(" dry");
            }
            if (cracked) {
                words.append(" cracked");
            }
            return words;
        }
    }

    private static final class Strip {
        private final Ground ground;
        private final ArrayList<Coat> coats;
        /** Between this strip and the next one. */
        boolean jointPlanned;

        Strip(Ground ground) {
            this.ground = ground;
            this.coats = new ArrayList<>();
        }

        int countCoats() {
            return coats.size();
        }

        /** Null without such a coat. */
        Coat coatAt(int coat) {
            return coat < 0 || coat >= coats.size() ? null : coats.get(coat);
        }

        /** Null without a coat. */
        Coat topCoat() {
            return coatAt(coats.size() - 1);
        }

        boolean takes(Plaster plaster) {
            if (coats.size() >= MOST_COATS) {
                return false;
            }
            Coat below = topCoat();
            if (below == null) {
                return ground.hardness >= plaster.hardness;
            }
            return below.plaster.hardness >= plaster.hardness && below.isDry();
        }

        void layCoat(Plaster plaster, int thick, int day) {
            Coat laid = new Coat(plaster, thick, day);
            laid.cracked = !laid.bondsOn(keysBelow());
            coats.add(laid);
        }

        private int keysBelow() {
            Coat below = topCoat();
            if (below == null) {
                return ground.keys;
            }
            return below.scratched ? SCRATCHED_KEYS : COAT_KEYS;
        }

        void strikeTop() {
            int count = coats.size();
            if (count > 0) {
                coats.remove(count - 1);
            }
        }

        boolean hasEdgeTo(Strip neighbour) {
            Coat own = topCoat();
            Coat old = neighbour.topCoat();
            return own != null && old != null && countCoats() == neighbour.countCoats()
                    && old.dayLaid < own.dayLaid && old.plaster == own.plaster;
        }

        int countPaid(int custom) {
            if (custom == 1) {
                return coats.isEmpty() ? 0 : 1;
            }
            int paid = 0;
            for (int i = 0; i < coats.size(); i++) {
                paid += coats.get(i).countPaid(custom);
            }
            return paid;
        }
    }

    private static final class Wall {
        private final ArrayList<Strip> strips;
        int dampness;

        Wall(int count, Ground ground) {
            strips = new ArrayList<>();
            for (int i = 0; i < count; i++) {
                strips.add(new Strip(ground));
            }
        }

        int countStrips() {
            return strips.size();
        }

        /** Null without such a strip. */
        Strip stripAt(int strip) {
            return strip < 0 || strip >= strips.size() ? null : strips.get(strip);
        }

        boolean takes(int from, int to, Plaster plaster) {
            for (int i = from; i <= to && i < strips.size(); i++) {
                Strip strip = stripAt(i);
                if (strip == null || !strip.takes(plaster)) {
                    return false;
                }
            }
            return true;
        }

        /** Answers on how many strips the coat is cracked at once. */
        int layCoat(int from, int to, Plaster plaster, int thick, int day) {
            for (int i = from; i <= to && i < strips.size(); i++) {
                Strip strip = stripAt(i);
                if (strip != null) {
                    strip.layCoat(plaster, thick, day);
                }
            }
            // Edges are looked for when all strips have the coat: none is between two of them.
            int cracked = 0;
            for (int i = from; i <= to && i < strips.size(); i++) {
                Strip strip = stripAt(i);
                Coat laid = strip == null ? null : strip.topCoat();
                if (laid != null) {
                    laid.cracked = laid.cracked || hasUnplannedEdge(i);
                    cracked += laid.cracked ? 1 : 0;
                }
            }
            return cracked;
        }

        private boolean hasUnplannedEdge(int at) {
            Strip strip = stripAt(at);
            if (strip == null) {
                return false;
            }
            Strip ahead = stripAt(at - 1);
            if (ahead != null && !ahead.jointPlanned && strip.hasEdgeTo(ahead)) {
                return true;
            }
            Strip next = stripAt(at + 1);
            return next != null && !strip.jointPlanned && strip.hasEdgeTo(next);
        }

        boolean isCoatedOn(int from, int to, int day) {
            for (int i = from; i <= to && i < strips.size(); i++) {
                Strip strip = stripAt(i);
                Coat top = strip == null ? null : strip.topCoat();
                if (top == null || top.dayLaid != day) {
                    return false;
                }
            }
            return true;
        }

        /** Answers how many of them were not scratched. */
        int scratchTops(int from, int to) {
            int scratchedNow = 0;
            for (int i = from; i <= to && i < strips.size(); i++) {
                Strip strip = stripAt(i);
                Coat top = strip == null ? null : strip.topCoat();
                if (top != null && !top.scratched) {
                    top.scratched = true;
                    scratchedNow++;
                }
            }
            return scratchedNow;
        }

        /** Answers how many coats came to be dry. */
        int dryFor(int days, int warmth, int wind) {
            // The weather stays the same on all these days, so their points can come at once.
            int points = days * Math.max(1, warmth / 2 + wind - dampness);
            int dried = 0;
            for (int i = 0; i < strips.size(); i++) {
                Coat top = strips.get(i).topCoat();
                if (top != null && top.driesBy(points, warmth)) {
                    dried++;
                }
            }
            return dried;
        }

        int countPaid(int custom) {
            int paid = 0;
            for (int i = 0; i < strips.size(); i++) {
                paid += strips.get(i).countPaid(custom);
            }
            return paid;
        }
    }

    /** What was laid and struck off, in order; coatsAnew() counts from it alone. */
    private static final class Log {
        private final ArrayList<Entry> entries;

        Log() {
            entries = new ArrayList<>();
        }

        /** Only behind the last call that the document promises anything of. */
        boolean isFull() {
            return entries.size() >= MOST_CALLS;
        }

        void note(int wall, int from, int to, int more) {
            entries.add(new Entry(wall, from, to, more));
        }

        int countCoats(int wall, int strip) {
            int coats = 0;
            for (int i = 0; i < entries.size(); i++) {
                Entry entry = entries.get(i);
                if (entry.isOf(wall, strip)) {
                    coats += entry.more;
                }
            }
            return coats;
        }
    }

    private static final class Entry {
        private final int wall;
        private final int from;
        private final int to;
        final int more;

        Entry(int wall, int from, int to, int more) {
            this.wall = wall;
            this.from = from;
            this.to = to;
            this.more = more;
        }

        boolean isOf(int asked, int strip) {
            return wall == asked && from <= strip && strip <= to;
        }
    }

    private static final class Profile {
        private final int[] depths;
        private int count;

        Profile(int first) {
            depths = new int[MOST_DEPTHS];
            depths[0] = first;
            count = 1;
        }

        int countDepths() {
            return count;
        }

        boolean isFull() {
            return count >= depths.length;
        }

        void append(int more) {
            if (count < depths.length) {
                depths[count] = more;
                count++;
            }
        }

        /** The last one at a place that the profile does not have. */
        int depthAt(int place) {
            int known = Math.min(place, count - 1);
            return known < 0 || known >= depths.length ? 0 : depths[known];
        }
    }

    private static final class Patch {
        final int dayLaid;
        /** Those that no later patch covers. */
        long cells;

        Patch(int dayLaid, long cells) {
            this.dayLaid = dayLaid;
            this.cells = cells;
        }
    }

    private static final class Fresco {
        private final ArrayList<Patch> patches;
        private final int[] windows;
        private final int[] pigments;
        private long seccoCells;

        Fresco() {
            patches = new ArrayList<>();
            windows = new int[PIGMENTS];
            pigments = new int[CELLS];
            for (int cell = 0; cell < pigments.length; cell++) {
                pigments[cell] = NONE;
            }
        }

        int windowOf(int pigment) {
            return pigment < 0 || pigment >= windows.length ? 0 : windows[pigment];
        }

        void setWindow(int pigment, int days) {
            if (pigment >= 0 && pigment < windows.length) {
                windows[pigment] = days;
            }
        }

        int countPatches() {
            return patches.size();
        }

        /** Null without such a patch. */
        Patch patchAt(int patch) {
            return patch < 0 || patch >= patches.size() ? null : patches.get(patch);
        }

        void layPatch(long cells, int day) {
            for (int i = 0; i < patches.size(); i++) {
                patches.get(i).cells &= ~cells;
            }
            setColour(cells, NONE, false);
            patches.add(new Patch(day, cells));
        }

        void setColour(long cells, int pigment, boolean secco) {
            for (int cell = 0; cell < pigments.length; cell++) {
                if (hasCell(cells, cell)) {
                    pigments[cell] = pigment;
                }
            }
            seccoCells = secco ? seccoCells | cells : seccoCells & ~cells;
        }

        int patchWith(int cell) {
            for (int i = 0; i < patches.size(); i++) {
                if (hasCell(patches.get(i).cells, cell)) {
                    return i;
                }
            }
            return NONE;
        }

        int pigmentOn(int cell) {
            return cell < 0 || cell >= pigments.length ? NONE : pigments[cell];
        }

        boolean isSecco(int cell) {
            return hasCell(seccoCells, cell);
        }

        int countMetBefore(int patch, long beside) {
            int met = 0;
            for (int i = 0; i < patch && i < patches.size(); i++) {
                if ((patches.get(i).cells & beside) != 0L) {
                    met++;
                }
            }
            return met;
        }
    }
}
