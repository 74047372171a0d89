import java.util.Arrays;
import java.util.NoSuchElementException;

/** Bubbles let out on lease; the numbered promises that it keeps stand in ../shared/DOC.md. */
public final class BubbleLeases {
    public static final int NONE = -1;

    private static final int TAPE_MOST = 600;
    private static final int FEED_BYTES = 20;
    private static final int LAW_MOST = 150;
    private static final int WORK_MOST = 150;
    private static final int BOOK_MOST = 60;

    private static final int CLAUSES_MOST = 60;
    private static final int VIEWS_MOST = 8;
    private static final int TENANTS_MOST = 5;
    private static final int OPEN_MOST = 6;
    private static final int WORKS_MOST = 16;
    private static final int IMAGES_MOST = 3;

    private static final int X_MOST = 99;
    private static final int SIZE_MOST = 20;
    private static final int SOAP_MOST = 20;
    private static final int WIND_MOST = 20;
    private static final int MONEY_MOST = 99;
    private static final int WORTH_MOST = 60;
    private static final int BREATH_MOST = 400;
    private static final int AHEAD_MOST = 99;
    /** Questions go on beyond the last BREATH that WORK may come to. */
    private static final int ENDLESS = Integer.MAX_VALUE;

    /** In a BOOK: the VIEW is had by none. */
    private static final int NOBODY = 5;

    private static final int CANNOT_STAND = 1;
    private static final int NO_SUCH_NUMBER = 2;
    private static final int TOO_MANY = 3;

    /** What to take of n halfpennies, by n % 7: who is left 0 or 2 beyond sevens loses. */
    private static final int[] HALFPENNIES = {NONE, 1, NONE, 1, 4, 3, 4};

    private final Tape tape = new Tape();
    private final Corner corner = new Corner();
    private final Corner newCorner = new Corner();
    private final Law law = new Law();
    private final Book book = new Book();
    private final Work work = new Work();
    private final Sky sky = new Sky(corner, law);
    /** Questions are played out here, so that nothing stays changed. */
    private final Sky trial = new Sky(corner, law);
    private final Past past = new Past();
    private final Past[] images = {new Past(), new Past(), new Past()};
    private final int[] tally = new int[VIEWS_MOST * (NOBODY + 1)];
    private final int[] worths = new int[TENANTS_MOST];
    private int imageCount;
    private int stepsRefused;
    private int drawSeed;
    private int noSuchElements;
    private int wrongArguments;

    public BubbleLeases() {
        imageCount = 0;
        stepsRefused = 0;
        drawSeed = 0;
        noSuchElements = 0;
        wrongArguments = 0;
    }

    // ---- texts

    public int feed(int a, int b, int c, int d, int e) {
        if (tape.length + FEED_BYTES > TAPE_MOST) {
            return NONE;
        }
        tape.add(a);
        tape.add(b);
        tape.add(c);
        tape.add(d);
        tape.add(e);
        return tape.length;
    }

    public int corner(int n) throws IllegalArgumentException {
        need(n, 0, tape.length);
        tape.begin(n);
        if (!newCorner.read(tape)) {
            return tape.faultAnswer();
        }
        corner.copyFrom(newCorner);
        law.forget();
        book.forget();
        sky.open();
        past.works = 0;
        imageCount = 0;
        stepsRefused = 0;
        return corner.tenants;
    }

    public int law(int n) throws IllegalArgumentException {
        need(n, 0, Math.min(LAW_MOST, tape.length));
        tape.begin(n);
        return law.read(tape) ? 1 : tape.faultAnswer();
    }

    public int work(int n) throws IllegalArgumentException {
        need(n, 0, Math.min(WORK_MOST, tape.length));
        if (past.works >= WORKS_MOST) {
            tape.begin(0);
            return -20;
        }
        tape.begin(n);
        if (!work.read(tape, corner.tenants)) {
            return tape.faultAnswer();
        }
        past.note(sky.row);
        past.works++;
        work.performFrom(sky, 0, work.length, 0);
        stepsRefused = work.refused;
        return work.done;
    }

    public int book(int n) throws IllegalArgumentException {
        need(n, 0, Math.min(BOOK_MOST, tape.length));
        tape.begin(n);
        return book.read(tape, corner.views) ? book.lines : tape.faultAnswer();
    }

    public int fault() {
        return tape.faultPlace;
    }

    // ---- undo and images

    public int undo() {
        if (past.works <= 0) {
            return -1;
        }
        past.works--;
        past.recall(sky.row);
        stepsRefused = 0;
        return past.works;
    }

    public int image() {
        if (imageCount >= IMAGES_MOST) {
            return -1;
        }
        images[imageCount].copyFrom(past);
        images[imageCount].note(sky.row);
        imageCount++;
        return imageCount;
    }

    public int restore() {
        if (imageCount <= 0) {
            return -1;
        }
        imageCount--;
        past.copyFrom(images[imageCount]);
        past.recall(sky.row);
        stepsRefused = 0;
        return imageCount;
    }

    public int status(int what) {
        if (what == 0) {
            return noSuchElements;
        }
        return what == 1 ? wrongArguments : NONE;
    }

    public int count(int what) {
        switch (what) {
            case 0: return imageCount;
            case 1: return tape.length;
            case 2: return past.works;
            default: return NONE;
        }
    }

    // ---- what is there

    public int told(int what) throws IllegalArgumentException {
        need(what, 0, 11);
        switch (what) {
            case 0: return corner.views;
            case 1: return corner.tenants;
            case 2: return corner.soap;
            case 3: return sky.row[Sky.BREATH];
            case 4: return sky.holders();
            case 5: return sky.row[Sky.BLOWN];
            case 6: return sky.row[Sky.BURST];
            case 7: return sky.moneyOfAll();
            case 8: return sky.worthHad();
            case 9: return book.lines;
            case 10: return stepsRefused;
            default: return sky.touchingTwos();
        }
    }

    public int view(int view, int what) throws NoSuchElementException, IllegalArgumentException {
        needView(view);
        need(what, 0, 3);
        switch (what) {
            case 0: return corner.viewX[view];
            case 1: return corner.worth[view];
            case 2: return sky.owner(view);
            default: return Integer.bitCount(sky.seenBy(view));
        }
    }

    public int tenant(int tenant, int what) throws NoSuchElementException, IllegalArgumentException {
        needTenant(tenant);
        need(what, 0, 5);
        switch (what) {
            case 0: return sky.row[Sky.MONEY + tenant];
            case 1: return sky.row[Sky.STAND + tenant];
            case 2: return sky.has(tenant) ? 1 : 0;
            case 3: return sky.viewsHad(tenant);
            case 4: return sky.worthOf(tenant);
            default: return sky.touching(tenant);
        }
    }

    public int bubble(int tenant, int what) throws NoSuchElementException, IllegalArgumentException {
        needTenant(tenant);
        need(what, 0, 4);
        if (!sky.has(tenant)) {
            return NONE;
        }
        switch (what) {
            case 0: return sky.row[Sky.SIZE + tenant];
            case 1: return sky.row[Sky.PLACE + tenant];
            case 2: return sky.row[Sky.AGE + tenant];
            case 3: return sky.life(tenant);
            default: return sky.viewsSeen(tenant);
        }
    }

    public int richest(int what) throws IllegalArgumentException {
        need(what, 0, 1);
        int best = NONE;
        int most = NONE;
        for (int t = 0; t < TENANTS_MOST; t++) {
            int worth = sky.has(t) ? sky.worthOf(t) : NONE;
            if (worth > most) {
                best = t;
                most = worth;
            }
        }
        return what == 0 ? best : most;
    }

    public int idle() {
        int bits = 0;
        for (int v = 0; v < corner.views; v++) {
            if (sky.seenBy(v) == 0) {
                bits |= 1 << v;
            }
        }
        return bits;
    }

    public int under() {
        int bits = 0;
        for (int t = 0; t < TENANTS_MOST; t++) {
            if (sky.canKeep(t)) {
                bits |= 1 << t;
            }
        }
        return bits;
    }

    public int terrace(int tenant) throws NoSuchElementException {
        needTenant(tenant);
        int bits = sky.has(tenant) ? 1 << tenant : 0;
        // A chain of five BUBBLES has four links, so so many rounds reach its end.
        for (int round = 1; round < TENANTS_MOST; round++) {
            bits |= neighbours(bits);
        }
        return bits;
    }

    private int neighbours(int tenants) {
        int bits = 0;
        for (int t = 0; t < TENANTS_MOST; t++) {
            if ((tenants >> t & 1) == 1) {
                bits |= sky.touching(t);
            }
        }
        return bits;
    }

    public int overlap(int tenant, int other) throws NoSuchElementException {
        needTenant(tenant);
        needTenant(other);
        boolean two = tenant != other && sky.has(tenant) && sky.has(other);
        return two ? sky.overlapOf(tenant, other) : Integer.MIN_VALUE;
    }

    public int wall(int tenant, int other, int half) throws NoSuchElementException, IllegalArgumentException {
        needTenant(tenant);
        needTenant(other);
        need(half, 0, 1);
        if ((sky.touching(tenant) >> other & 1) == 0) {
            return NONE;
        }
        int one = sky.row[Sky.SIZE + tenant];
        int two = sky.row[Sky.SIZE + other];
        // A flat wall is 0 by 1, though nothing can be divided by how much more the one is.
        return one == two ? half : (int) leastTerms(one * two, Math.abs(one - two), half);
    }

    public int vacant(int what) throws IllegalArgumentException {
        need(what, 0, 1);
        int best = NONE;
        int most = NONE;
        for (int v = 0; v < corner.views; v++) {
            if (sky.seenBy(v) == 0 && corner.worth[v] > most) {
                best = v;
                most = corner.worth[v];
            }
        }
        return what == 0 ? best : most;
    }

    public int front(int from, int to, int what) throws IllegalArgumentException {
        need(from, 0, X_MOST);
        need(to, 0, X_MOST);
        need(what, 0, 1);
        int sum = 0;
        for (int v = 0; v < corner.views; v++) {
            boolean inside = corner.viewX[v] >= from && corner.viewX[v] <= to;
            boolean had = sky.owner(v) != NONE;
            if (inside && had == (what == 0)) {
                sum += corner.worth[v];
            }
        }
        return sum;
    }

    public int closest(int view, int what) throws NoSuchElementException, IllegalArgumentException {
        needView(view);
        need(what, 0, 1);
        int best = NONE;
        int least = NONE;
        for (int t = 0; t < TENANTS_MOST; t++) {
            if (sky.has(t) && (best == NONE || sky.farFrom(t, view) < least)) {
                best = t;
                least = sky.farFrom(t, view);
            }
        }
        return what == 0 ? best : least;
    }

    // ---- what would be

    public int would(int size, int soap, int walls, int place, int worth, int breath, int blown, int tenant)
            throws IllegalArgumentException {
        need(size, 1, SIZE_MOST);
        need(soap, 1, SOAP_MOST);
        need(walls, 0, TENANTS_MOST - 1);
        need(place, 0, X_MOST);
        need(worth, 0, VIEWS_MOST * WORTH_MOST);
        need(breath, 0, BREATH_MOST);
        need(blown, 0, 999);
        need(tenant, 0, TENANTS_MOST - 1);
        law.given[Law.SIZE] = size;
        law.given[Law.SOAP] = soap;
        law.given[Law.WALLS] = walls;
        law.given[Law.PLACE] = place;
        law.given[Law.WORTH] = worth;
        law.given[Law.BREATH] = breath;
        law.given[Law.BLOWN] = blown;
        law.given[Law.TENANT] = tenant;
        return law.life();
    }

    public int ahead(int n, int what) throws IllegalArgumentException {
        need(n, 0, AHEAD_MOST);
        need(what, 0, 2);
        trial.copyFrom(sky);
        for (int i = 0; i < n; i++) {
            trial.breathe(ENDLESS);
        }
        switch (what) {
            case 0: return trial.holders();
            case 1: return trial.worthHad();
            default: return trial.row[Sky.BURST];
        }
    }

    public int lasts(int tenant) throws NoSuchElementException {
        needTenant(tenant);
        if (!sky.has(tenant)) {
            return NONE;
        }
        trial.copyFrom(sky);
        for (int breaths = 1; breaths <= AHEAD_MOST; breaths++) {
            trial.breathe(ENDLESS);
            if (!trial.has(tenant)) {
                return breaths;
            }
        }
        return NONE;
    }

    public int offer(int tenant, int size) throws NoSuchElementException, IllegalArgumentException {
        needTenant(tenant);
        need(size, 1, SIZE_MOST);
        if (sky.has(tenant)) {
            return NONE;
        }
        trial.copyFrom(sky);
        trial.putBubble(tenant, size, trial.row[Sky.STAND + tenant], 0);
        return trial.worthOf(tenant);
    }

    public int lost(int n, int what) throws IllegalArgumentException {
        need(n, 1, WIND_MOST);
        need(what, 0, 1);
        return sky.carriedOff(what == 0 ? n : -n);
    }

    public int needs(int tenant, int view) throws NoSuchElementException {
        needTenant(tenant);
        needView(view);
        int far = Math.abs(corner.viewX[view] - sky.row[Sky.STAND + tenant]);
        return far > SIZE_MOST ? NONE : Math.max(1, far);
    }

    public int buyers(int tenant, int n) throws NoSuchElementException, IllegalArgumentException {
        needTenant(tenant);
        need(n, 0, MONEY_MOST);
        int bits = 0;
        for (int t = 0; t < corner.tenants; t++) {
            if (sky.canSell(tenant, t, n)) {
                bits |= 1 << t;
            }
        }
        return bits;
    }

    public int affords(int tenant) throws NoSuchElementException {
        needTenant(tenant);
        if (sky.has(tenant)) {
            return NONE;
        }
        int greatest = 0;
        for (int size = 1; size <= SIZE_MOST; size++) {
            if (sky.canBlow(tenant, size)) {
                greatest = size;
            }
        }
        return greatest;
    }

    // ---- the best places

    public int pitch(int size, int what) throws IllegalArgumentException {
        need(size, 1, SIZE_MOST);
        need(what, 0, 1);
        int best = 0;
        int most = NONE;
        for (int x = 0; x <= X_MOST; x++) {
            int worth = corner.worthWithin(x - size, x + size);
            if (worth > most) {
                best = x;
                most = worth;
            }
        }
        return what == 0 ? best : most;
    }

    public int street(int size, int n) throws IllegalArgumentException {
        need(size, 1, SIZE_MOST);
        need(n, 0, 8);
        return corner.mostWorth(0, 2 * size, n);
    }

    // ---- who blew

    public int fits(int what) throws IllegalArgumentException {
        need(what, 0, 1);
        int pairs = 0;
        int first = NONE;
        for (int t = 0; t < corner.tenants; t++) {
            for (int size = 1; size <= SIZE_MOST; size++) {
                if (tryPair(t, size)) {
                    first = pairs == 0 ? 100 * t + size : first;
                    pairs++;
                }
            }
        }
        return what == 0 ? pairs : first;
    }

    public int look(int what) throws IllegalArgumentException {
        need(what, 0, 1);
        tallyOwners();
        int best = NONE;
        int fewest = NONE;
        for (int v = 0; v < corner.views; v++) {
            int worst = worstLeft(v);
            if (book.line[v] == NONE && (best == NONE || worst < fewest)) {
                best = v;
                fewest = worst;
            }
        }
        return what == 0 ? best : fewest;
    }

    /** Leaves in trial what is there when the TENANT has blown, if he can. */
    private boolean tryPair(int tenant, int size) {
        trial.copyFrom(sky);
        trial.blow(tenant, size);
        return book.isRight(trial, corner.views);
    }

    /** For each VIEW: by how many pairs that fit each TENANT, or nobody, has it. */
    private void tallyOwners() {
        Arrays.fill(tally, 0);
        for (int t = 0; t < corner.tenants; t++) {
            for (int size = 1; size <= SIZE_MOST; size++) {
                if (tryPair(t, size)) {
                    tallyTrial();
                }
            }
        }
    }

    private void tallyTrial() {
        for (int v = 0; v < corner.views; v++) {
            tally[v * (NOBODY + 1) + trial.ownerOrNobody(v)]++;
        }
    }

    private int worstLeft(int view) {
        int worst = 0;
        for (int owner = 0; owner <= NOBODY; owner++) {
            worst = Math.max(worst, tally[view * (NOBODY + 1) + owner]);
        }
        return worst;
    }

    // ---- chances and games

    public long stands(int n, int q, int half) throws IllegalArgumentException {
        need(n, 0, 12);
        need(q, 0, 16);
        need(half, 0, 1);
        return leastTerms(power(16 - q, n), power(16, n), half);
    }

    public long mean(int n, int q, int half) throws IllegalArgumentException {
        need(n, 0, 12);
        need(q, 0, 16);
        need(half, 0, 1);
        long above = 0;
        for (int i = 1; i <= n; i++) {
            above += power(16 - q, i) * power(16, n - i);
        }
        return leastTerms(above, power(16, n), half);
    }

    public int sure(int n) throws IllegalArgumentException {
        need(n, 0, 999);
        return HALFPENNIES[n % 7];
    }

    public int pay(int v, int w, int what) throws IllegalArgumentException {
        need(v, 0, 99);
        need(w, 0, 99);
        need(what, 0, 2);
        int rests = 0;
        int first = NONE;
        int together = 0;
        for (int pair = 0; pair < 4; pair++) {
            int one = pair / 2;
            int two = pair % 2;
            if (isContent(v, w, one, two) && isContent(v, w, two, one)) {
                if (rests == 0) {
                    first = 10 * one + two;
                    together = gain(v, w, one, two) + gain(v, w, two, one);
                }
                rests++;
            }
        }
        if (what == 0) {
            return rests;
        }
        return what == 1 ? first : together;
    }

    private static boolean isContent(int v, int w, int own, int other) {
        return gain(v, w, own, other) >= gain(v, w, 1 - own, other);
    }

    /** 0 is to pay, 1 is not to. */
    private static int gain(int v, int w, int own, int other) {
        if (own == 0) {
            return other == 0 ? v - w : v - 2 * w;
        }
        return other == 0 ? v : 0;
    }

    public int sun(int tenant, int tenants, int n) throws NoSuchElementException, IllegalArgumentException {
        needTenant(tenant);
        need(tenants, 0, (1 << corner.tenants) - 1);
        need(n, 0, 999);
        if ((tenants >> tenant & 1) == 0) {
            return 0;
        }
        for (int t = 0; t < TENANTS_MOST; t++) {
            worths[t] = (tenants >> t & 1) == 1 ? sky.worthOf(t) : 0;
        }
        return Math.min(sunBound(n), worths[tenant]);
    }

    /** The bound is found bit by bit; 511 is above all the WORTH that there can be. */
    private int sunBound(int n) {
        int bound = 0;
        for (int step = 256; step > 0; step /= 2) {
            if (sunGiven(bound + step) <= n) {
                bound += step;
            }
        }
        return bound;
    }

    private int sunGiven(int bound) {
        int given = 0;
        for (int t = 0; t < TENANTS_MOST; t++) {
            given += Math.min(bound, worths[t]);
        }
        return given;
    }

    private static long power(long base, int n) {
        long product = 1;
        for (int i = 0; i < n; i++) {
            product *= base;
        }
        return product;
    }

    /** Above (half 0) or below (half 1) of a fraction whose below is 1 or more. */
    private static long leastTerms(long above, long below, int half) {
        long divisor = below;
        long rest = above;
        for (int i = 0; i < 100 && rest != 0; i++) {
            long next = divisor % rest;
            divisor = rest;
            rest = next;
        }
        if (divisor == 0) {
            return NONE;
        }
        return (half == 0 ? above : below) / divisor;
    }

    // ---- afternoons

    public int afternoon(int seed, int q, int breaths, int what) throws IllegalArgumentException {
        needAfternoon(q, breaths);
        need(what, 0, 3);
        playAfternoon(seed, q, breaths);
        switch (what) {
            case 0: return trial.holders();
            case 1: return trial.row[Sky.BLOWN] - sky.row[Sky.BLOWN];
            case 2: return trial.row[Sky.BURST] - sky.row[Sky.BURST];
            default: return trial.worthHad();
        }
    }

    public int span(int seed, int many, int q, int breaths, int what, int tenant) throws IllegalArgumentException {
        need(many, 1, 10);
        needAfternoon(q, breaths);
        need(what, 0, 2);
        need(tenant, 0, corner.tenants - 1);
        int fewest = Integer.MAX_VALUE;
        int most = 0;
        int having = 0;
        for (int i = 0; i < many; i++) {
            playAfternoon(seed + i, q, breaths);
            int burst = trial.row[Sky.BURST] - sky.row[Sky.BURST];
            fewest = Math.min(fewest, burst);
            most = Math.max(most, burst);
            having += trial.has(tenant) ? 1 : 0;
        }
        if (what == 0) {
            return fewest;
        }
        return what == 1 ? most : having;
    }

    private void playAfternoon(int seed, int q, int breaths) {
        trial.copyFrom(sky);
        drawSeed = seed;
        for (int i = 0; i < breaths; i++) {
            if (corner.tenants > 0) {
                int tenant = draw(corner.tenants);
                trial.blow(tenant, 1 + draw(SIZE_MOST));
                boolean east = draw(16) < q;
                int wind = 1 + draw(WIND_MOST);
                trial.drift(east ? wind : -wind);
            }
            trial.breathe(ENDLESS);
        }
    }

    private int draw(int by) {
        drawSeed = drawSeed * 1103515245 + 12345;
        return by > 0 ? (drawSeed >>> 16 & 32767) % by : 0;
    }

    // ---- refusals

    private void need(int value, int least, int most) {
        if (value < least || value > most) {
            wrongArguments++;
            throw new IllegalArgumentException();
        }
    }

    private void needAfternoon(int q, int breaths) {
        need(q, 0, 16);
        need(breaths, 1, 48);
    }

    private void needTenant(int tenant) {
        if (tenant < 0 || tenant >= corner.tenants) {
            noSuchElements++;
            throw new NoSuchElementException();
        }
    }

    private void needView(int view) {
        if (view < 0 || view >= corner.views) {
            noSuchElements++;
            throw new NoSuchElementException();
        }
    }

    /** The TAPE, and a reader of the text that was taken from it last. */
    private static final class Tape {
        private static final int BLANK = 32;
        /** Far above every number that a text may hold, far below where ints wrap. */
        private static final int NUMBER_CAP = 100000;

        private final int[] bytes = new int[TAPE_MOST];
        int length = 0;
        private int end = 0;
        private int at = 0;
        private int faultKind = 0;
        int faultPlace = NONE;
        int number = 0;
        int numberAt = 0;
        int wordAt = 0;

        void add(int four) {
            for (int shift = 24; shift >= 0; shift -= 8) {
                if (length < bytes.length) {
                    bytes[length] = four >>> shift & 255;
                    length++;
                }
            }
        }

        /** The first n bytes become the text; they stay in the row until the next feed. */
        void begin(int n) {
            length = 0;
            end = Math.min(n, bytes.length);
            at = 0;
            faultKind = 0;
            faultPlace = NONE;
        }

        boolean fail(int kind, int where) {
            faultKind = kind;
            faultPlace = where;
            return false;
        }

        int faultAnswer() {
            return faultKind - 10;
        }

        /** The next byte that is no blank, NONE at the end. */
        int peek() {
            while (at < end && bytes[at] == BLANK) {
                at++;
            }
            return at < end ? bytes[at] : NONE;
        }

        boolean hasMore() {
            return peek() != NONE;
        }

        /** Fails at what comes next. */
        boolean failHere(int kind) {
            peek();
            return fail(kind, at);
        }

        boolean takeIf(int sign) {
            if (peek() != sign) {
                return false;
            }
            at++;
            return true;
        }

        boolean takeSign(int sign) {
            if (peek() != sign) {
                return fail(CANNOT_STAND, at);
            }
            at++;
            return true;
        }

        boolean atDigit() {
            int next = peek();
            return next >= '0' && next <= '9';
        }

        boolean takeNumber(int least, int most) {
            peek();
            numberAt = at;
            number = 0;
            while (at < end && bytes[at] >= '0' && bytes[at] <= '9') {
                number = Math.min(NUMBER_CAP, number * 10 + bytes[at] - '0');
                at++;
            }
            if (at == numberAt) {
                return fail(CANNOT_STAND, at);
            }
            return number >= least && number <= most || fail(NO_SUCH_NUMBER, numberAt);
        }

        /** Takes all small letters that stand there, none perhaps. */
        void takeWord() {
            peek();
            wordAt = at;
            while (at < end && bytes[at] >= 'a' && bytes[at] <= 'z') {
                at++;
            }
        }

        boolean wordIs(String word) {
            if (at - wordAt != word.length()) {
                return false;
            }
            for (int i = 0; i < word.length(); i++) {
                if (bytes[wordAt + i] != word.charAt(i)) {
                    return false;
                }
            }
            return true;
        }

        boolean failAtWord(int kind) {
            return fail(kind, wordAt);
        }
    }

    /** What a CORNER tells. */
    private static final class Corner {
        private static final int SOAP_UNTOLD = 8;

        int views = 0;
        int tenants = 0;
        int soap = SOAP_UNTOLD;
        final int[] viewX = new int[VIEWS_MOST];
        final int[] worth = new int[VIEWS_MOST];
        final int[] money = new int[TENANTS_MOST];
        final int[] stand = new int[TENANTS_MOST];

        void copyFrom(Corner other) {
            views = other.views;
            tenants = other.tenants;
            soap = other.soap;
            System.arraycopy(other.viewX, 0, viewX, 0, VIEWS_MOST);
            System.arraycopy(other.worth, 0, worth, 0, VIEWS_MOST);
            System.arraycopy(other.money, 0, money, 0, TENANTS_MOST);
            System.arraycopy(other.stand, 0, stand, 0, TENANTS_MOST);
        }

        boolean read(Tape tape) {
            views = 0;
            tenants = 0;
            soap = SOAP_UNTOLD;
            // One CLAUSE too many is still looked at, for its FAULT.
            for (int clauses = 0; clauses <= CLAUSES_MOST && tape.hasMore(); clauses++) {
                if (!readClause(tape, clauses == CLAUSES_MOST)) {
                    return false;
                }
            }
            return true;
        }

        private boolean readClause(Tape tape, boolean tooMany) {
            tape.takeWord();
            if (tape.wordIs("view")) {
                return tooMany || views >= VIEWS_MOST ? tape.failAtWord(TOO_MANY) : readView(tape);
            }
            if (tape.wordIs("tenant")) {
                return tooMany || tenants >= TENANTS_MOST ? tape.failAtWord(TOO_MANY) : readTenant(tape);
            }
            if (tape.wordIs("soap")) {
                return tooMany ? tape.failAtWord(TOO_MANY) : readSoap(tape);
            }
            return tape.failAtWord(CANNOT_STAND);
        }

        private boolean readView(Tape tape) {
            if (!tape.takeNumber(0, X_MOST)) {
                return false;
            }
            viewX[views] = tape.number;
            if (!tape.takeNumber(0, WORTH_MOST)) {
                return false;
            }
            worth[views] = tape.number;
            views++;
            return tape.takeSign(';');
        }

        private boolean readTenant(Tape tape) {
            if (!tape.takeNumber(0, MONEY_MOST)) {
                return false;
            }
            money[tenants] = tape.number;
            if (!tape.takeNumber(0, X_MOST)) {
                return false;
            }
            stand[tenants] = tape.number;
            tenants++;
            return tape.takeSign(';');
        }

        private boolean readSoap(Tape tape) {
            if (!tape.takeNumber(1, SOAP_MOST)) {
                return false;
            }
            soap = tape.number;
            return tape.takeSign(';');
        }

        int worthWithin(int from, int to) {
            int sum = 0;
            for (int v = 0; v < views; v++) {
                if (viewX[v] >= from && viewX[v] <= to) {
                    sum += worth[v];
                }
            }
            return sum;
        }

        /**
         * The most WORTH at X's of from and beyond under n stretches of X's, reach more than their first.
         * A stretch may begin at a VIEW: where its middle would be beyond 99, a BUBBLE at 99 sees as much.
         * Each call leaves a VIEW's X behind, so eight VIEWS keep this low.
         */
        private int mostWorth(int from, int reach, int n) {
            int x = n > 0 ? firstViewX(from) : NONE;
            if (x == NONE) {
                return 0;
            }
            int without = mostWorth(x + 1, reach, n);
            int with = worthWithin(x, x + reach) + mostWorth(x + reach + 1, reach, n - 1);
            return Math.max(without, with);
        }

        private int firstViewX(int from) {
            int least = NONE;
            for (int v = 0; v < views; v++) {
                if (viewX[v] >= from && (least == NONE || viewX[v] < least)) {
                    least = viewX[v];
                }
            }
            return least;
        }
    }

    /** A LAW as a row of numbers, names and operators, each operator behind what it works on. */
    private static final class Law {
        static final int SIZE = 0;
        static final int SOAP = 1;
        static final int WALLS = 2;
        static final int PLACE = 3;
        static final int WORTH = 4;
        static final int BREATH = 5;
        static final int BLOWN = 6;
        static final int TENANT = 7;
        private static final int NAMES = 8;

        private static final int NUMBER_MOST = 999;
        private static final int LIFE_MOST = 60;

        private static final int FIRST_NAME = 1000;
        private static final int FIRST_OPERATOR = 2000;
        private static final int PLUS = 2000;
        private static final int MINUS = 2001;
        private static final int TIMES = 2002;
        private static final int OVER = 2003;
        private static final int REST = 2004;
        private static final int LEAST = 2005;
        private static final int MOST = 2006;

        /** What counts without a LAW: soap * 2 - size / 2 + walls. */
        private static final int[] PLAIN = {
            FIRST_NAME + SOAP, 2, TIMES, FIRST_NAME + SIZE, 2, OVER, MINUS, FIRST_NAME + WALLS, PLUS};

        private final int[] codes = new int[LAW_MOST];
        private int length = 0;
        private final int[] draft = new int[LAW_MOST];
        private int drafted = 0;
        private final int[] stack = new int[LAW_MOST];
        private int namesUsed = 0;
        final int[] given = new int[NAMES];

        Law() {
            forget();
        }

        void forget() {
            System.arraycopy(PLAIN, 0, draft, 0, PLAIN.length);
            drafted = PLAIN.length;
            takeDraft();
        }

        /** What a LAW does not speak of need not be counted for it. */
        boolean uses(int name) {
            return (namesUsed >> name & 1) == 1;
        }

        int life() {
            int top = 0;
            for (int i = 0; i < length; i++) {
                int code = codes[i];
                if (code < FIRST_OPERATOR && top < LAW_MOST) {
                    stack[top] = code < FIRST_NAME ? code : given[code - FIRST_NAME];
                    top++;
                } else if (top >= 2) {
                    top--;
                    stack[top - 1] = combined(code, stack[top - 1], stack[top]);
                }
            }
            return Math.max(1, Math.min(LIFE_MOST, stack[0]));
        }

        private static int combined(int code, int left, int right) {
            switch (code) {
                case PLUS: return left + right;
                case MINUS: return left - right;
                case TIMES: return left * right;
                case OVER: return right == 0 ? 0 : left / right;
                case REST: return right == 0 ? 0 : left % right;
                case LEAST: return Math.min(left, right);
                default: return Math.max(left, right);
            }
        }

        boolean read(Tape tape) {
            drafted = 0;
            if (!readSum(tape, 0)) {
                return false;
            }
            if (tape.hasMore()) {
                return tape.failHere(CANNOT_STAND);
            }
            takeDraft();
            return true;
        }

        private void takeDraft() {
            namesUsed = 0;
            length = drafted;
            for (int i = 0; i < length; i++) {
                codes[i] = draft[i];
                if (codes[i] >= FIRST_NAME && codes[i] < FIRST_OPERATOR) {
                    namesUsed |= 1 << codes[i] - FIRST_NAME;
                }
            }
        }

        private boolean put(int code) {
            if (drafted < LAW_MOST) {
                draft[drafted] = code;
                drafted++;
            }
            return true;
        }

        private boolean readSum(Tape tape, int open) {
            if (!readProduct(tape, open)) {
                return false;
            }
            for (int i = 0; i < LAW_MOST; i++) {
                int code = tape.takeIf('+') ? PLUS : tape.takeIf('-') ? MINUS : NONE;
                if (code == NONE) {
                    return true;
                }
                if (!readProduct(tape, open)) {
                    return false;
                }
                put(code);
            }
            return true;
        }

        private boolean readProduct(Tape tape, int open) {
            if (!readUnit(tape, open)) {
                return false;
            }
            for (int i = 0; i < LAW_MOST; i++) {
                int code = tape.takeIf('*') ? TIMES : tape.takeIf('/') ? OVER : tape.takeIf('%') ? REST : NONE;
                if (code == NONE) {
                    return true;
                }
                if (!readUnit(tape, open)) {
                    return false;
                }
                put(code);
            }
            return true;
        }

        private boolean readUnit(Tape tape, int open) {
            if (tape.atDigit()) {
                return tape.takeNumber(0, NUMBER_MOST) && put(tape.number);
            }
            if (tape.peek() == '(') {
                return open < OPEN_MOST ? readBracket(tape, open + 1) : tape.failHere(TOO_MANY);
            }
            tape.takeWord();
            int operator = operatorWord(tape);
            if (operator != NONE) {
                return open < OPEN_MOST ? readTwo(tape, open + 1) && put(operator) : tape.failAtWord(TOO_MANY);
            }
            int name = nameWord(tape);
            return name != NONE ? put(FIRST_NAME + name) : tape.failAtWord(CANNOT_STAND);
        }

        private boolean readBracket(Tape tape, int open) {
            return tape.takeSign('(') && readSum(tape, open) && tape.takeSign(')');
        }

        private boolean readTwo(Tape tape, int open) {
            return tape.takeSign('[') && readSum(tape, open)
                    && tape.takeSign(',') && readSum(tape, open) && tape.takeSign(']');
        }

        private static int operatorWord(Tape tape) {
            if (tape.wordIs("least")) {
                return LEAST;
            }
            return tape.wordIs("most") ? MOST : NONE;
        }

        private static int nameWord(Tape tape) {
            if (tape.wordIs("size")) {
                return SIZE;
            }
            if (tape.wordIs("soap")) {
                return SOAP;
            }
            if (tape.wordIs("walls")) {
                return WALLS;
            }
            if (tape.wordIs("place")) {
                return PLACE;
            }
            if (tape.wordIs("worth")) {
                return WORTH;
            }
            if (tape.wordIs("breath")) {
                return BREATH;
            }
            if (tape.wordIs("blown")) {
                return BLOWN;
            }
            return tape.wordIs("tenant") ? TENANT : NONE;
        }
    }

    /** Who is said to have which VIEW. */
    private static final class Book {
        /** By VIEW: the TENANT, NOBODY, or NONE where the VIEW is in no line. */
        final int[] line = new int[VIEWS_MOST];
        int lines = 0;
        private final int[] draft = new int[VIEWS_MOST];

        Book() {
            Arrays.fill(line, NONE);
        }

        void forget() {
            Arrays.fill(line, NONE);
            lines = 0;
        }

        boolean read(Tape tape, int views) {
            Arrays.fill(draft, NONE);
            int drafted = 0;
            // A ninth line has no VIEW left, so its FAULT ends the loop.
            for (int i = 0; i <= VIEWS_MOST && tape.hasMore(); i++) {
                if (!readLine(tape, views)) {
                    return false;
                }
                drafted++;
            }
            lines = drafted;
            System.arraycopy(draft, 0, line, 0, VIEWS_MOST);
            return true;
        }

        private boolean readLine(Tape tape, int views) {
            if (!tape.takeNumber(0, views - 1)) {
                return false;
            }
            int view = tape.number;
            if (view >= VIEWS_MOST || draft[view] != NONE) {
                return tape.fail(NO_SUCH_NUMBER, tape.numberAt);
            }
            if (!tape.takeNumber(0, NOBODY)) {
                return false;
            }
            draft[view] = tape.number;
            return tape.takeSign(';');
        }

        boolean isRight(Sky sky, int views) {
            for (int v = 0; v < views; v++) {
                if (line[v] != NONE && line[v] != sky.ownerOrNobody(v)) {
                    return false;
                }
            }
            return true;
        }
    }

    /** WORK as a row of STEPS, the body of an again behind it. */
    private static final class Work {
        private static final int BLOW = 0;
        private static final int EAST = 1;
        private static final int WEST = 2;
        private static final int RUN = 3;
        private static final int SELL = 4;
        private static final int KEEP = 5;
        private static final int BREATH = 6;
        private static final int AGAIN = 7;

        private static final int AGAIN_MOST = 30;
        private static final int BEGUN_MOST = 200;
        /** The shortest STEPS have six bytes with their sign. */
        private static final int STEPS_MOST = WORK_MOST / 6;
        /** Of each STEP: what it is, and three numbers. */
        private static final int WIDTH = 4;

        private final int[] steps = new int[STEPS_MOST * WIDTH];
        int length = 0;
        private int begun = 0;
        int done = 0;
        int refused = 0;

        boolean read(Tape tape, int tenants) {
            length = 0;
            begun = 0;
            done = 0;
            refused = 0;
            if (!readSteps(tape, tenants, 0)) {
                return false;
            }
            return !tape.hasMore() || tape.failHere(CANNOT_STAND);
        }

        private boolean readSteps(Tape tape, int tenants, int open) {
            for (int i = 0; i < STEPS_MOST && tape.hasMore() && tape.peek() != ']'; i++) {
                if (!readStep(tape, tenants, open)) {
                    return false;
                }
            }
            return true;
        }

        private boolean readStep(Tape tape, int tenants, int open) {
            tape.takeWord();
            int kind = stepWord(tape);
            if (kind == NONE || length >= STEPS_MOST) {
                return tape.failAtWord(CANNOT_STAND);
            }
            if (kind == AGAIN && open >= OPEN_MOST) {
                return tape.failAtWord(TOO_MANY);
            }
            int at = length * WIDTH;
            length++;
            steps[at] = kind;
            boolean right = kind == AGAIN
                    ? readAgain(tape, at, tenants, open + 1)
                    : readNumbers(tape, at, kind, tenants - 1);
            return right && tape.takeSign(';');
        }

        private boolean readAgain(Tape tape, int at, int tenants, int open) {
            if (!readNumber(tape, at + 1, 0, AGAIN_MOST) || !tape.takeSign('[')
                    || !readSteps(tape, tenants, open) || !tape.takeSign(']')) {
                return false;
            }
            steps[at + 2] = length;
            return true;
        }

        private boolean readNumbers(Tape tape, int at, int kind, int lastTenant) {
            switch (kind) {
                case BLOW:
                    return readNumber(tape, at + 1, 0, lastTenant) && readNumber(tape, at + 2, 1, SIZE_MOST);
                case EAST:
                case WEST:
                    return readNumber(tape, at + 1, 1, WIND_MOST);
                case RUN:
                    return readNumber(tape, at + 1, 0, lastTenant) && readNumber(tape, at + 2, 0, X_MOST);
                case SELL:
                    return readNumber(tape, at + 1, 0, lastTenant) && readNumber(tape, at + 2, 0, lastTenant)
                            && readNumber(tape, at + 3, 0, MONEY_MOST);
                case KEEP:
                    return readNumber(tape, at + 1, 0, lastTenant);
                default:
                    return true;
            }
        }

        private boolean readNumber(Tape tape, int at, int least, int most) {
            if (!tape.takeNumber(least, most)) {
                return false;
            }
            steps[at] = tape.number;
            return true;
        }

        private static int stepWord(Tape tape) {
            if (tape.wordIs("blow")) {
                return BLOW;
            }
            if (tape.wordIs("east")) {
                return EAST;
            }
            if (tape.wordIs("west")) {
                return WEST;
            }
            if (tape.wordIs("run")) {
                return RUN;
            }
            if (tape.wordIs("sell")) {
                return SELL;
            }
            if (tape.wordIs("keep")) {
                return KEEP;
            }
            if (tape.wordIs("breath")) {
                return BREATH;
            }
            return tape.wordIs("again") ? AGAIN : NONE;
        }

        /** Does the STEPS from one on, ahead of another; of the text that was read last, and once only. */
        private void performFrom(Sky sky, int from, int to, int open) {
            for (int i = from; i < to && begun < BEGUN_MOST; i++) {
                begun++;
                if (steps[i * WIDTH] == AGAIN) {
                    int end = Math.max(i + 1, Math.min(length, steps[i * WIDTH + 2]));
                    for (int times = 0; times < steps[i * WIDTH + 1] && open < OPEN_MOST; times++) {
                        performFrom(sky, i + 1, end, open + 1);
                    }
                    i = end - 1;
                } else if (isDone(sky, i * WIDTH)) {
                    done++;
                } else {
                    refused++;
                }
            }
        }

        private boolean isDone(Sky sky, int at) {
            int first = steps[at + 1];
            int second = steps[at + 2];
            switch (steps[at]) {
                case BLOW: return sky.blow(first, second);
                case EAST: return sky.drift(first);
                case WEST: return sky.drift(-first);
                case RUN: return sky.runTo(first, second);
                case SELL: return sky.sellFor(first, second, steps[at + 3]);
                case KEEP: return sky.keepUp(first);
                default: return sky.breathe(BREATH_MOST);
            }
        }
    }

    /** All that WORK changes, in one row, and what can be seen and done there. */
    private static final class Sky {
        static final int BREATH = 0;
        static final int BLOWN = 1;
        static final int BURST = 2;
        static final int MONEY = 3;
        static final int STAND = MONEY + TENANTS_MOST;
        /** 0 where a TENANT has no BUBBLE. */
        static final int SIZE = STAND + TENANTS_MOST;
        static final int PLACE = SIZE + TENANTS_MOST;
        static final int AGE = PLACE + TENANTS_MOST;
        static final int ROW = AGE + TENANTS_MOST;

        private final Corner corner;
        private final Law law;
        final int[] row = new int[ROW];

        Sky(Corner corner, Law law) {
            this.corner = corner;
            this.law = law;
        }

        void open() {
            Arrays.fill(row, 0);
            for (int t = 0; t < corner.tenants; t++) {
                row[MONEY + t] = corner.money[t];
                row[STAND + t] = corner.stand[t];
            }
        }

        void copyFrom(Sky other) {
            System.arraycopy(other.row, 0, row, 0, ROW);
        }

        // ---- what is seen

        boolean has(int t) {
            return row[SIZE + t] > 0;
        }

        int holders() {
            int bits = 0;
            for (int t = 0; t < TENANTS_MOST; t++) {
                if (has(t)) {
                    bits |= 1 << t;
                }
            }
            return bits;
        }

        int moneyOfAll() {
            int sum = 0;
            for (int t = 0; t < TENANTS_MOST; t++) {
                sum += row[MONEY + t];
            }
            return sum;
        }

        int farFrom(int t, int view) {
            return Math.abs(row[PLACE + t] - corner.viewX[view]);
        }

        private boolean sees(int t, int view) {
            return has(t) && farFrom(t, view) <= row[SIZE + t];
        }

        int seenBy(int view) {
            int bits = 0;
            for (int t = 0; t < TENANTS_MOST; t++) {
                if (sees(t, view)) {
                    bits |= 1 << t;
                }
            }
            return bits;
        }

        int viewsSeen(int t) {
            int bits = 0;
            for (int v = 0; v < corner.views; v++) {
                if (sees(t, v)) {
                    bits |= 1 << v;
                }
            }
            return bits;
        }

        int owner(int view) {
            int owner = NONE;
            int nearest = X_MOST + 1;
            for (int t = 0; t < TENANTS_MOST; t++) {
                int far = Math.abs(row[PLACE + t] - corner.viewX[view]);
                if (row[SIZE + t] > 0 && far <= row[SIZE + t] && far < nearest) {
                    owner = t;
                    nearest = far;
                }
            }
            return owner;
        }

        int ownerOrNobody(int view) {
            int owner = owner(view);
            return owner == NONE ? NOBODY : owner;
        }

        int viewsHad(int t) {
            int bits = 0;
            for (int v = 0; v < corner.views; v++) {
                if (owner(v) == t) {
                    bits |= 1 << v;
                }
            }
            return bits;
        }

        int worthOf(int t) {
            int sum = 0;
            for (int v = 0; v < corner.views; v++) {
                sum += owner(v) == t ? corner.worth[v] : 0;
            }
            return sum;
        }

        int worthHad() {
            int sum = 0;
            for (int v = 0; v < corner.views; v++) {
                sum += owner(v) == NONE ? 0 : corner.worth[v];
            }
            return sum;
        }

        /** By how much two BUBBLES lie over each other. */
        int overlapOf(int one, int two) {
            return row[SIZE + one] + row[SIZE + two] - Math.abs(row[PLACE + one] - row[PLACE + two]);
        }

        int touching(int tenant) {
            int bits = 0;
            for (int t = 0; t < TENANTS_MOST; t++) {
                if (t != tenant && has(t) && has(tenant) && overlapOf(tenant, t) >= 0) {
                    bits |= 1 << t;
                }
            }
            return bits;
        }

        int touchingTwos() {
            int ends = 0;
            for (int t = 0; t < TENANTS_MOST; t++) {
                ends += Integer.bitCount(touching(t));
            }
            return ends / 2;
        }

        int life(int t) {
            law.given[Law.SIZE] = row[SIZE + t];
            law.given[Law.SOAP] = corner.soap;
            law.given[Law.WALLS] = law.uses(Law.WALLS) ? Integer.bitCount(touching(t)) : 0;
            law.given[Law.PLACE] = row[PLACE + t];
            law.given[Law.WORTH] = law.uses(Law.WORTH) ? worthOf(t) : 0;
            law.given[Law.BREATH] = row[BREATH];
            law.given[Law.BLOWN] = row[BLOWN];
            law.given[Law.TENANT] = t;
            return law.life();
        }

        // ---- what is done: each STEP answers whether it could be

        boolean canBlow(int t, int size) {
            return !has(t) && row[MONEY + t] >= price(size);
        }

        private static int price(int size) {
            return 1 + size / 5;
        }

        boolean blow(int t, int size) {
            if (!canBlow(t, size)) {
                return false;
            }
            row[MONEY + t] -= price(size);
            row[BLOWN]++;
            putBubble(t, size, row[STAND + t], 0);
            return true;
        }

        void putBubble(int t, int size, int place, int age) {
            row[SIZE + t] = size;
            row[PLACE + t] = place;
            row[AGE + t] = age;
        }

        /** BUBBLES that a wind would carry out of the corner, as bits; it blows west below 0. */
        int carriedOff(int wind) {
            int bits = 0;
            for (int t = 0; t < TENANTS_MOST; t++) {
                int place = row[PLACE + t] + wind;
                if (has(t) && (place < 0 || place > X_MOST)) {
                    bits |= 1 << t;
                }
            }
            return bits;
        }

        boolean drift(int wind) {
            if (holders() == 0) {
                return false;
            }
            burstAll(carriedOff(wind));
            for (int t = 0; t < TENANTS_MOST; t++) {
                if (has(t)) {
                    row[PLACE + t] += wind;
                }
            }
            return true;
        }

        boolean runTo(int t, int x) {
            if (row[STAND + t] == x) {
                return false;
            }
            row[STAND + t] = x;
            return true;
        }

        boolean canSell(int from, int to, int money) {
            return from != to && has(from) && !has(to) && row[MONEY + to] >= money;
        }

        boolean sellFor(int from, int to, int money) {
            if (!canSell(from, to, money)) {
                return false;
            }
            row[MONEY + from] += money;
            row[MONEY + to] -= money;
            putBubble(to, row[SIZE + from], row[PLACE + from], row[AGE + from]);
            putBubble(from, 0, 0, 0);
            return true;
        }

        boolean canKeep(int t) {
            return has(t) && row[AGE + t] > 0 && Math.abs(row[STAND + t] - row[PLACE + t]) <= row[SIZE + t];
        }

        boolean keepUp(int t) {
            if (!canKeep(t)) {
                return false;
            }
            row[AGE + t] = 0;
            return true;
        }

        /** REFUSED from the BREATH of end on. */
        boolean breathe(int end) {
            if (row[BREATH] >= end) {
                return false;
            }
            for (int t = 0; t < TENANTS_MOST; t++) {
                row[AGE + t] += has(t) ? 1 : 0;
            }
            // All LIVES are counted before any BUBBLE goes, since walls and worth hang on the others.
            int outlived = 0;
            for (int t = 0; t < TENANTS_MOST; t++) {
                if (has(t) && row[AGE + t] >= life(t)) {
                    outlived |= 1 << t;
                }
            }
            burstAll(outlived);
            row[BREATH]++;
            return true;
        }

        private void burstAll(int tenants) {
            for (int t = 0; t < TENANTS_MOST; t++) {
                if ((tenants >> t & 1) == 1) {
                    putBubble(t, 0, 0, 0);
                    row[BURST]++;
                }
            }
        }
    }

    /** What was there ahead of each WORK that can be undone; in an IMAGE, what was there then behind these. */
    private static final class Past {
        private final int[] rows = new int[(WORKS_MOST + 1) * Sky.ROW];
        int works = 0;

        void copyFrom(Past other) {
            works = other.works;
            System.arraycopy(other.rows, 0, rows, 0, rows.length);
        }

        void note(int[] row) {
            if (works >= 0 && works <= WORKS_MOST) {
                System.arraycopy(row, 0, rows, works * Sky.ROW, Sky.ROW);
            }
        }

        void recall(int[] row) {
            if (works >= 0 && works <= WORKS_MOST) {
                System.arraycopy(rows, works * Sky.ROW, row, 0, Sky.ROW);
            }
        }
    }
}
