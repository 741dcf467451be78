import java.util.Arrays;

/**
 * A pager: processes whose pages may be shared after a fork, on few frames and
 * the sectors of a disk. Pages come when they are asked for, others go by
 * second chance.
 */
public final class PagerHouse {
    public static final int NONE = -1;

    private static final int WORDS = 16;
    private static final int PROCESSES = 8;
    private static final int MOST_PAGES = 32;
    private static final int LEAST_FRAMES = 2;
    private static final int MOST_FRAMES = 16;
    private static final int MOST_SECTORS = 64;
    private static final int FIRST_WORD_ASKED = 16;

    private final Rows frames;
    private final Rows sectors;
    private final boolean[] used;
    private int hand;

    /** How many pages each process has; 0: there is no such process. */
    private final int[] pageCounts;
    /** The body of each page of each process, MOST_PAGES slots a process; null: the page is EMPTY. */
    private final Body[] bodies;

    private int accesses;
    private int taken;
    private int brought;
    private int storings;
    private int copies;

    /** What one page, or several that share it since a fork, is made of. */
    private static final class Body {
        private final int pageNumber;
        private int frame;
        private int sector;
        private int holders;
        private boolean dirty;

        private Body(int pageNumber) {
            this.pageNumber = pageNumber;
            this.frame = NONE;
            this.sector = NONE;
            this.holders = 1;
        }
    }

    /** Frames and sectors alike: rows of sixteen words, each FREE (null) or with one body. */
    private static final class Rows {
        private final Body[] content;
        private final int[] words;

        private Rows(int count) {
            content = new Body[count];
            words = new int[count * WORDS];
        }

        private boolean has(int row) {
            return row >= 0 && row < content.length;
        }

        private int leastFree() {
            for (int row = 0; row < content.length; row++) {
                if (content[row] == null) {
                    return row;
                }
            }
            return NONE;
        }

        private int countFree() {
            int free = 0;
            for (int row = 0; row < content.length; row++) {
                if (content[row] == null) {
                    free++;
                }
            }
            return free;
        }

        private void zero(int row) {
            if (has(row)) {
                Arrays.fill(words, row * WORDS, (row + 1) * WORDS, 0);
            }
        }

        private void copyWords(int row, Rows source, int sourceRow) {
            if (has(row) && source.has(sourceRow)) {
                System.arraycopy(source.words, sourceRow * WORDS, words, row * WORDS, WORDS);
            }
        }
    }

    public PagerHouse(int frames, int sectors) {
        int frameCount = Math.min(Math.max(frames, LEAST_FRAMES), MOST_FRAMES);
        int sectorCount = Math.min(Math.max(sectors, 0), MOST_SECTORS);
        this.frames = new Rows(frameCount);
        this.sectors = new Rows(sectorCount);
        this.used = new boolean[frameCount];
        this.pageCounts = new int[PROCESSES];
        this.bodies = new Body[PROCESSES * MOST_PAGES];
    }

    public int begin(int pages) {
        int process = leastFreeProcess();
        if (process == NONE || pages < 1 || pages > MOST_PAGES) {
            return NONE;
        }
        pageCounts[process] = pages;
        return process;
    }

    public int fork(int process) {
        int child = leastFreeProcess();
        if (child == NONE || !hasProcess(process)) {
            return NONE;
        }
        pageCounts[child] = pageCounts[process];
        for (int page = 0; page < pageCounts[process]; page++) {
            Body body = bodies[slot(process, page)];
            bodies[slot(child, page)] = body;
            if (body != null) {
                body.holders++;
            }
        }
        return child;
    }

    public boolean end(int process) {
        if (!hasProcess(process)) {
            return false;
        }
        for (int page = 0; page < pageCounts[process]; page++) {
            empty(slot(process, page));
        }
        pageCounts[process] = 0;
        return true;
    }

    public int read(int process, int address) throws IndexOutOfBoundsException, IllegalStateException {
        checkAddress(process, address);
        Body body = bodies[slot(process, address / WORDS)];
        checkRoom(takesToRead(body));
        accesses++;
        if (body == null) {
            return 0;
        }
        if (body.frame == NONE) {
            bring(body, take(NONE));
        }
        used[body.frame] = true;
        return frames.words[body.frame * WORDS + address % WORDS];
    }

    public int write(int process, int address, int v) throws IndexOutOfBoundsException, IllegalStateException {
        checkAddress(process, address);
        int page = address / WORDS;
        Body shared = bodies[slot(process, page)];
        int takes = takesToWrite(shared);
        checkRoom(takes);
        accesses++;
        Body own = ownBody(shared, page);
        bodies[slot(process, page)] = own;
        used[own.frame] = true;
        frames.words[own.frame * WORDS + address % WORDS] = v;
        own.dirty = true;
        return takes;
    }

    public boolean drop(int process, int page) {
        if (!hasPage(process, page)) {
            return false;
        }
        return empty(slot(process, page));
    }

    public int flush() {
        if (countWithoutSector() > sectors.countFree()) {
            return NONE;
        }
        int count = 0;
        for (int f = 0; f < frames.content.length; f++) {
            Body body = frames.content[f];
            if (body != null && body.dirty) {
                store(body);
                count++;
            }
        }
        return count;
    }

    public int page(int process, int page, int what) {
        if (!hasPage(process, page)) {
            return NONE;
        }
        Body body = bodies[slot(process, page)];
        switch (what) {
            case 0:
                return body == null ? NONE : body.frame;
            case 1:
                return body == null ? NONE : body.sector;
            case 2:
                return body == null ? 0 : body.holders;
            case 3:
                return body != null && body.dirty ? 1 : 0;
            default:
                return NONE;
        }
    }

    public int frame(int f, int what) {
        if (!frames.has(f)) {
            return NONE;
        }
        if (what >= FIRST_WORD_ASKED && what < FIRST_WORD_ASKED + WORDS) {
            return frames.words[f * WORDS + what - FIRST_WORD_ASKED];
        }
        Body body = frames.content[f];
        switch (what) {
            case 0:
                return used[f] ? 1 : 0;
            case 1:
                return body == null ? NONE : leastHolder(body);
            case 2:
                return body == null ? NONE : body.pageNumber;
            default:
                return NONE;
        }
    }

    public int stored(int sector, int i) throws IndexOutOfBoundsException {
        if (!sectors.has(sector) || i < 0 || i >= WORDS) {
            throw new IndexOutOfBoundsException("no such sector or word");
        }
        return sectors.words[sector * WORDS + i];
    }

    public int look(int what) {
        switch (what) {
            case 0:
                return countProcesses();
            case 1:
                return frames.countFree();
            case 2:
                return sectors.countFree();
            case 3:
                return hand;
            case 4:
                return countBodies();
            case 5:
                return countDirty();
            case 6:
                return accesses;
            case 7:
                return taken;
            case 8:
                return brought;
            case 9:
                return storings;
            case 10:
                return copies;
            default:
                return NONE;
        }
    }

    private int leastFreeProcess() {
        for (int process = 0; process < PROCESSES; process++) {
            if (pageCounts[process] == 0) {
                return process;
            }
        }
        return NONE;
    }

    private boolean hasProcess(int process) {
        return process >= 0 && process < PROCESSES && pageCounts[process] > 0;
    }

    private boolean hasPage(int process, int page) {
        return hasProcess(process) && page >= 0 && page < pageCounts[process];
    }

    private static int slot(int process, int page) {
        return process * MOST_PAGES + page;
    }

    private void checkAddress(int process, int address) {
        if (address < 0 || !hasPage(process, address / WORDS)) {
            throw new IndexOutOfBoundsException("no such process or address");
        }
    }

    private void checkRoom(int takes) {
        if (takes - frames.countFree() > sectors.countFree()) {
            throw new IllegalStateException("no room");
        }
    }

    private static int takesToRead(Body body) {
        return body != null && body.frame == NONE ? 1 : 0;
    }

    private static int takesToWrite(Body body) {
        if (body == null) {
            return 1;
        }
        return takesToRead(body) + (body.holders > 1 ? 1 : 0);
    }

    /** The body in a frame that a page may write to: a new one, the one it has, or a copy of it. */
    private Body ownBody(Body shared, int page) {
        if (shared == null) {
            return newBody(page, take(NONE));
        }
        if (shared.frame == NONE) {
            bring(shared, take(NONE));
        }
        return shared.holders > 1 ? copyBody(shared, take(shared.frame)) : shared;
    }

    private Body newBody(int page, int f) {
        Body body = new Body(page);
        lay(body, f);
        frames.zero(f);
        return body;
    }

    private Body copyBody(Body shared, int f) {
        Body copy = newBody(shared.pageNumber, f);
        frames.copyWords(f, frames, shared.frame);
        shared.holders--;
        copies++;
        return copy;
    }

    private void bring(Body body, int f) {
        lay(body, f);
        frames.copyWords(f, sectors, body.sector);
        brought++;
    }

    private void lay(Body body, int f) {
        body.frame = f;
        frames.content[f] = body;
    }

    private int take(int kept) {
        int f = frames.leastFree();
        if (f == NONE) {
            f = secondChance(kept);
            vacate(f);
        }
        taken++;
        return f;
    }

    /** One lap leaves no frame USED but the kept one, so the second lap finds another: there are two at least. */
    private int secondChance(int kept) {
        int passes = 2 * used.length;
        while (passes > 0 && (hand == kept || used[hand])) {
            if (hand != kept) {
                used[hand] = false;
            }
            hand = behind(hand);
            passes--;
        }
        int f = hand;
        hand = behind(f);
        return f;
    }

    private int behind(int f) {
        return f + 1 < used.length ? f + 1 : 0;
    }

    private void vacate(int f) {
        Body body = frames.content[f];
        if (body == null) {
            return;
        }
        if (body.dirty) {
            store(body);
        }
        body.frame = NONE;
        frames.content[f] = null;
    }

    private void store(Body body) {
        int sector = body.sector != NONE ? body.sector : sectors.leastFree();
        // Every caller has made sure of room; the test stands so that no index goes unseen.
        if (!sectors.has(sector)) {
            return;
        }
        body.sector = sector;
        sectors.content[sector] = body;
        sectors.copyWords(sector, frames, body.frame);
        body.dirty = false;
        storings++;
    }

    private boolean empty(int slot) {
        Body body = bodies[slot];
        if (body == null) {
            return false;
        }
        bodies[slot] = null;
        body.holders--;
        if (body.holders == 0) {
            release(body);
        }
        return true;
    }

    private void release(Body body) {
        if (frames.has(body.frame)) {
            frames.content[body.frame] = null;
            used[body.frame] = false;
        }
        if (sectors.has(body.sector)) {
            sectors.content[body.sector] = null;
        }
    }

    private int leastHolder(Body body) {
        for (int process = 0; process < PROCESSES; process++) {
            if (bodies[slot(process, body.pageNumber)] == body) {
                return process;
            }
        }
        return NONE;
    }

    private int countProcesses() {
        int count = 0;
        for (int process = 0; process < PROCESSES; process++) {
            if (hasProcess(process)) {
                count++;
            }
        }
        return count;
    }

    private int countBodies() {
        int count = frames.content.length - frames.countFree();
        for (int sector = 0; sector < sectors.content.length; sector++) {
            Body body = sectors.content[sector];
            if (body != null && body.frame == NONE) {
                count++;
            }
        }
        return count;
    }

    private int countDirty() {
        int count = 0;
        for (int f = 0; f < frames.content.length; f++) {
            Body body = frames.content[f];
            if (body != null && body.dirty) {
                count++;
            }
        }
        return count;
    }

    /** All of these are DIRTY: what lies in a frame alone has never been stored. */
    private int countWithoutSector() {
        int count = 0;
        for (int f = 0; f < frames.content.length; f++) {
            Body body = frames.content[f];
            if (body != null && body.sector == NONE) {
                count++;
            }
        }
        return count;
    }
}
