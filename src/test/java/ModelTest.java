import java.util.ArrayList;
import java.util.HashSet;
import java.util.List;
import java.util.Random;
import java.util.Set;
import java.util.TreeMap;

/**
 * Seeded runs of 512 calls, the most that an object is used for, each answer
 * held against a model that keeps little and derives the rest from the pages.
 */
public final class ModelTest {
    private static final int RUNS = 3000;
    private static final int CALLS = 512;
    private static final int MOST_SHOWN = 20;
    private static final int[] ODD = {-1, -16, 8, 16, 32, 33, 64, Integer.MIN_VALUE, Integer.MAX_VALUE};

    private static int wrong = 0;

    private static final class Body {
        final int page;
        int[] inFrame;
        int[] inSector;
        boolean written;

        Body(int page) {
            this.page = page;
        }
    }

    /** What the document tells, with an exception told as a text. */
    private static final class Model {
        final int frameCount;
        final int sectorCount;
        final TreeMap<Integer, Body[]> processes = new TreeMap<>();
        final int[][] frames;
        final int[][] sectors;
        final Set<Integer> used = new HashSet<>();
        int hand;
        final long[] counts = new long[11];

        Model(int frames, int sectors) {
            frameCount = frames < 2 ? 2 : frames > 16 ? 16 : frames;
            sectorCount = sectors < 0 ? 0 : sectors > 64 ? 64 : sectors;
            this.frames = new int[frameCount][16];
            this.sectors = new int[sectorCount][16];
        }

        Set<Body> bodies() {
            Set<Body> all = new HashSet<>();
            for (Body[] pages : processes.values()) {
                for (Body body : pages) {
                    if (body != null) {
                        all.add(body);
                    }
                }
            }
            return all;
        }

        List<Integer> holders(Body body) {
            List<Integer> holders = new ArrayList<>();
            processes.forEach((number, pages) -> {
                for (Body each : pages) {
                    if (each == body) {
                        holders.add(number);
                    }
                }
            });
            return holders;
        }

        Body inFrame(int f) {
            return bodies().stream().filter(b -> b.inFrame == frames[f]).findFirst().orElse(null);
        }

        List<Integer> freeFrames() {
            List<Integer> free = new ArrayList<>();
            for (int f = 0; f < frameCount; f++) {
                if (inFrame(f) == null) {
                    free.add(f);
                }
            }
            return free;
        }

        List<Integer> freeSectors() {
            Set<Object> taken = new HashSet<>();
            for (Body body : bodies()) {
                if (body.inSector != null) {
                    taken.add(body.inSector);
                }
            }
            List<Integer> free = new ArrayList<>();
            for (int s = 0; s < sectorCount; s++) {
                if (!taken.contains(sectors[s])) {
                    free.add(s);
                }
            }
            return free;
        }

        int leastProcess() {
            int number = 0;
            while (processes.containsKey(number)) {
                number++;
            }
            return number < 8 ? number : -1;
        }

        void store(Body body) {
            if (body.inSector == null) {
                body.inSector = sectors[freeSectors().get(0)];
            }
            System.arraycopy(body.inFrame, 0, body.inSector, 0, 16);
            body.written = false;
            counts[9]++;
        }

        int take(int kept) {
            counts[7]++;
            List<Integer> free = freeFrames();
            if (!free.isEmpty()) {
                used.remove(free.get(0));
                return free.get(0);
            }
            while (hand == kept || used.contains(hand)) {
                if (hand != kept) {
                    used.remove(hand);
                }
                hand = (hand + 1) % frameCount;
            }
            int f = hand;
            hand = (hand + 1) % frameCount;
            Body body = inFrame(f);
            if (body.written) {
                store(body);
            }
            body.inFrame = null;
            return f;
        }

        int numberOf(int[][] rows, int[] row) {
            for (int i = 0; i < rows.length; i++) {
                if (rows[i] == row) {
                    return i;
                }
            }
            return -1;
        }

        void bring(Body body) {
            body.inFrame = frames[take(-1)];
            System.arraycopy(body.inSector, 0, body.inFrame, 0, 16);
            counts[8]++;
        }

        boolean noRoom(int takes) {
            return takes - freeFrames().size() > freeSectors().size();
        }

        Body[] pagesWith(int process, int page) {
            Body[] pages = processes.get(process);
            return pages == null || page < 0 || page >= pages.length ? null : pages;
        }

        String read(int process, int address) {
            Body[] pages = pagesWith(process, Math.floorDiv(address, 16));
            if (pages == null) {
                return "IndexOutOfBoundsException";
            }
            Body body = pages[address / 16];
            if (body != null && body.inFrame == null) {
                if (noRoom(1)) {
                    return "IllegalStateException";
                }
                bring(body);
            }
            counts[6]++;
            if (body == null) {
                return "0";
            }
            used.add(numberOf(frames, body.inFrame));
            return "" + body.inFrame[address % 16];
        }

        String write(int process, int address, int v) {
            Body[] pages = pagesWith(process, Math.floorDiv(address, 16));
            if (pages == null) {
                return "IndexOutOfBoundsException";
            }
            int page = address / 16;
            Body body = pages[page];
            boolean away = body != null && body.inFrame == null;
            boolean shared = body != null && holders(body).size() > 1;
            int takes = body == null ? 1 : (away ? 1 : 0) + (shared ? 1 : 0);
            if (noRoom(takes)) {
                return "IllegalStateException";
            }
            if (away) {
                bring(body);
            }
            if (body == null || shared) {
                Body own = new Body(page);
                own.inFrame = frames[take(shared ? numberOf(frames, body.inFrame) : -1)];
                System.arraycopy(shared ? body.inFrame : new int[16], 0, own.inFrame, 0, 16);
                counts[10] += shared ? 1 : 0;
                pages[page] = own;
            }
            Body own = pages[page];
            used.add(numberOf(frames, own.inFrame));
            own.inFrame[address % 16] = v;
            own.written = true;
            counts[6]++;
            return "" + takes;
        }

        String begin(int pages) {
            int number = leastProcess();
            if (number < 0 || pages < 1 || pages > 32) {
                return "-1";
            }
            processes.put(number, new Body[pages]);
            return "" + number;
        }

        String fork(int process) {
            int number = leastProcess();
            if (number < 0 || !processes.containsKey(process)) {
                return "-1";
            }
            processes.put(number, processes.get(process).clone());
            return "" + number;
        }

        String end(int process) {
            return "" + (processes.remove(process) != null);
        }

        String drop(int process, int page) {
            Body[] pages = pagesWith(process, page);
            if (pages == null || pages[page] == null) {
                return "false";
            }
            pages[page] = null;
            return "true";
        }

        String flush() {
            long homeless = bodies().stream().filter(b -> b.written && b.inSector == null).count();
            if (homeless > freeSectors().size()) {
                return "-1";
            }
            int count = 0;
            for (int f = 0; f < frameCount; f++) {
                Body body = inFrame(f);
                if (body != null && body.written) {
                    store(body);
                    count++;
                }
            }
            return "" + count;
        }

        String page(int process, int page, int what) {
            Body[] pages = pagesWith(process, page);
            if (pages == null || what < 0 || what > 3) {
                return "-1";
            }
            Body body = pages[page];
            if (body == null) {
                return what < 2 ? "-1" : "0";
            }
            int[] told = {numberOf(frames, body.inFrame), numberOf(sectors, body.inSector),
                holders(body).size(), body.written ? 1 : 0};
            return "" + told[what];
        }

        String frame(int f, int what) {
            if (f < 0 || f >= frameCount || what < 0 || what > 31 || what > 2 && what < 16) {
                return "-1";
            }
            if (what >= 16) {
                return "" + frames[f][what - 16];
            }
            Body body = inFrame(f);
            if (body == null) {
                return what == 0 ? "0" : "-1";
            }
            return "" + (what == 0 ? used.contains(f) ? 1 : 0 : what == 1 ? holders(body).get(0) : body.page);
        }

        String stored(int sector, int i) {
            boolean there = sector >= 0 && sector < sectorCount && i >= 0 && i < 16;
            return there ? "" + sectors[sector][i] : "IndexOutOfBoundsException";
        }

        String look(int what) {
            if (what < 0 || what > 10) {
                return "-1";
            }
            counts[0] = processes.size();
            counts[1] = freeFrames().size();
            counts[2] = freeSectors().size();
            counts[3] = hand;
            counts[4] = bodies().size();
            counts[5] = bodies().stream().filter(b -> b.written).count();
            return "" + counts[what];
        }
    }

    private static String call(PagerHouse x, String name, int a, int b, int c) {
        try {
            switch (name) {
                case "begin": return "" + x.begin(a);
                case "fork": return "" + x.fork(a);
                case "end": return "" + x.end(a);
                case "read": return "" + x.read(a, b);
                case "write": return "" + x.write(a, b, c);
                case "drop": return "" + x.drop(a, b);
                case "flush": return "" + x.flush();
                case "page": return "" + x.page(a, b, c);
                case "frame": return "" + x.frame(a, b);
                case "stored": return "" + x.stored(a, b);
                default: return "" + x.look(a);
            }
        } catch (RuntimeException e) {
            return e.getClass().getSimpleName();
        }
    }

    private static String call(Model m, String name, int a, int b, int c) {
        switch (name) {
            case "begin": return m.begin(a);
            case "fork": return m.fork(a);
            case "end": return m.end(a);
            case "read": return m.read(a, b);
            case "write": return m.write(a, b, c);
            case "drop": return m.drop(a, b);
            case "flush": return m.flush();
            case "page": return m.page(a, b, c);
            case "frame": return m.frame(a, b);
            case "stored": return m.stored(a, b);
            default: return m.look(a);
        }
    }

    private static int pick(Random random, int bound) {
        return random.nextInt(60) == 0 ? ODD[random.nextInt(ODD.length)] : random.nextInt(bound);
    }

    private static String change(Random random, int calm) {
        int dice = random.nextInt(100);
        if (dice < 45) return "write";
        if (dice < 75) return "read";
        if (dice < 82) return "fork";
        if (dice < 85) return "begin";
        if (dice < 85 + calm) return "end";
        if (dice < 97) return "drop";
        return "flush";
    }

    private static String view(Random random) {
        String[] views = {"page", "frame", "stored", "look", "look"};
        return views[random.nextInt(views.length)];
    }

    private static void run(int seed) {
        Random random = new Random(seed);
        int frames = random.nextInt(8) == 0 ? random.nextInt(20) - 1 : 2 + random.nextInt(5);
        int sectors = random.nextInt(8) == 0 ? random.nextInt(70) - 2 : random.nextInt(16);
        int pages = 1 + random.nextInt(random.nextInt(4) == 0 ? 32 : 6);
        int crowd = 1 + random.nextInt(8);
        int calm = random.nextInt(6);
        PagerHouse x = new PagerHouse(frames, sectors);
        Model m = new Model(frames, sectors);
        for (int k = 0; k < CALLS; k++) {
            String name = k == 0 ? "begin" : random.nextInt(3) == 0 ? view(random) : change(random, calm);
            int a = 0;
            int b = 0;
            int c = 0;
            switch (name) {
                case "begin": a = k == 0 ? pages : pick(random, pages + 1); break;
                case "fork": case "end": a = pick(random, crowd); break;
                case "read": case "write":
                    a = pick(random, crowd);
                    b = pick(random, pages * 16);
                    c = random.nextInt();
                    break;
                case "drop": a = pick(random, crowd); b = pick(random, pages); break;
                case "page": a = pick(random, crowd); b = pick(random, pages); c = pick(random, 4); break;
                case "frame": a = pick(random, m.frameCount); b = pick(random, random.nextBoolean() ? 3 : 32); break;
                case "stored": a = pick(random, m.sectorCount + 1); b = pick(random, 16); break;
                case "look": a = pick(random, 11); break;
                default: break;
            }
            String want = call(m, name, a, b, c);
            String got = call(x, name, a, b, c);
            if (!got.equals(want)) {
                wrong++;
                if (wrong <= MOST_SHOWN) {
                    System.out.println("new PagerHouse(" + frames + ", " + sectors + "), seed " + seed + ", call " + k
                        + ": " + name + "(" + a + ", " + b + ", " + c + ") answered " + got + ", due is " + want);
                }
                return;
            }
        }
    }

    public static void main(String[] args) {
        Watchdog.start();
        for (int seed = 0; seed < RUNS; seed++) {
            run(seed);
        }
        System.out.println(wrong == 0 ? "all runs are as the model" : wrong + " runs are not as the model");
        if (wrong != 0) {
            System.exit(1);
        }
    }
}
