import java.util.function.IntSupplier;

/** One method or more for each promise of the document: ordinary inputs, named edges, wrong inputs. */
public final class PromisesTest {
    private static final int NONE = PagerHouse.NONE;
    private static final int INDEX = -1001;
    private static final int STATE = -1002;
    private static final int OTHER = -1003;

    private static int wrong = 0;
    private static String promise = "";

    public static void main(String[] args) {
        Watchdog.start();
        newObject();
        newObjectLimits();
        begin();
        fork();
        forkNone();
        end();
        endSharesAndFrees();
        widestNeighbours();
        read();
        readBringsBySecondChance();
        readWrong();
        readWithoutRoom();
        write();
        writeCopies();
        writeBringsAndCopies();
        writeKeepsTheFrameItCopies();
        writeStoresInTheSectorItHas();
        writeEvictsCleanWithoutStoring();
        writeWrong();
        writeWithoutRoom();
        writeRoomCountsFramesAndSectors();
        drop();
        dropShared();
        flush();
        flushNone();
        page();
        frame();
        stored();
        look();
        System.out.println(wrong == 0 ? "all promises hold" : wrong + " answers are not as due");
        if (wrong != 0) {
            System.exit(1);
        }
    }

    private static void due(String call, int got, int want) {
        if (got != want) {
            wrong++;
            System.out.println(promise + ": " + call + " answered " + told(got) + ", due is " + told(want));
        }
    }

    private static void due(String call, boolean got, boolean want) {
        due(call, got ? 1 : 0, want ? 1 : 0);
    }

    private static String told(int answer) {
        switch (answer) {
            case INDEX: return "throws.IndexOutOfBoundsException";
            case STATE: return "throws.IllegalStateException";
            case OTHER: return "throws another exception";
            default: return Integer.toString(answer);
        }
    }

    /** The call's answer, or a number for what it throws: exactly that class, not one below it. */
    private static int answer(IntSupplier call) {
        try {
            return call.getAsInt();
        } catch (RuntimeException e) {
            if (e.getClass() == IndexOutOfBoundsException.class) {
                return INDEX;
            }
            return e.getClass() == IllegalStateException.class ? STATE : OTHER;
        }
    }

    private static void dueRead(PagerHouse x, int process, int address, int want) {
        due("read(" + process + ", " + address + ")", answer(() -> x.read(process, address)), want);
    }

    private static void dueWrite(PagerHouse x, int process, int address, int v, int want) {
        due("write(" + process + ", " + address + ", " + v + ")", answer(() -> x.write(process, address, v)), want);
    }

    private static void dueStored(PagerHouse x, int sector, int i, int want) {
        due("stored(" + sector + ", " + i + ")", answer(() -> x.stored(sector, i)), want);
    }

    private static void duePage(PagerHouse x, int process, int page, int... wants) {
        for (int what = 0; what < wants.length; what++) {
            due("page(" + process + ", " + page + ", " + what + ")", x.page(process, page, what), wants[what]);
        }
    }

    private static void dueFrame(PagerHouse x, int f, int... wants) {
        for (int what = 0; what < wants.length; what++) {
            due("frame(" + f + ", " + what + ")", x.frame(f, what), wants[what]);
        }
    }

    private static void dueLook(PagerHouse x, int... wants) {
        for (int what = 0; what < wants.length; what++) {
            due("look(" + what + ")", x.look(what), wants[what]);
        }
    }

    private static void newObject() {
        promise = "1 new object";
        PagerHouse x = new PagerHouse(3, 5);
        dueLook(x, 0, 3, 5, 0, 0, 0, 0, 0, 0, 0, 0);
        for (int f = 0; f < 3; f++) {
            dueFrame(x, f, 0, NONE, NONE);
            for (int what = 16; what < 32; what++) {
                due("frame(" + f + ", " + what + ")", x.frame(f, what), 0);
            }
        }
        for (int sector = 0; sector < 5; sector++) {
            for (int i = 0; i < 16; i++) {
                dueStored(x, sector, i, 0);
            }
        }
    }

    private static void newObjectLimits() {
        promise = "1 limits";
        int[][] rows = {
            {2, 0, 2, 0}, {16, 64, 16, 64}, {1, -1, 2, 0}, {17, 65, 16, 64}, {0, 63, 2, 63}, {-5, 1, 2, 1},
            {Integer.MIN_VALUE, Integer.MIN_VALUE, 2, 0}, {Integer.MAX_VALUE, Integer.MAX_VALUE, 16, 64},
        };
        for (int[] row : rows) {
            PagerHouse x = new PagerHouse(row[0], row[1]);
            due("look(1)", x.look(1), row[2]);
            due("look(2)", x.look(2), row[3]);
            due("frame(F - 1, 0)", x.frame(row[2] - 1, 0), 0);
            due("frame(F, 0)", x.frame(row[2], 0), NONE);
            dueStored(x, row[3], 0, INDEX);
        }
    }

    private static void begin() {
        promise = "2 begin";
        PagerHouse x = new PagerHouse(2, 2);
        for (int pages : new int[] {0, -1, 33, Integer.MIN_VALUE, Integer.MAX_VALUE}) {
            due("begin(" + pages + ")", x.begin(pages), NONE);
        }
        due("look(0)", x.look(0), 0);
        due("begin(1)", x.begin(1), 0);
        due("begin(32)", x.begin(32), 1);
        duePage(x, 0, 0, NONE, NONE, 0, 0);
        duePage(x, 0, 1, NONE, NONE, NONE, NONE);
        duePage(x, 1, 31, NONE, NONE, 0, 0);
        for (int process = 2; process < 8; process++) {
            due("begin(2)", x.begin(2), process);
        }
        due("begin(2) of nine", x.begin(2), NONE);
        due("look(0)", x.look(0), 8);
        due("end(5)", x.end(5), true);
        due("end(2)", x.end(2), true);
        due("begin(0)", x.begin(0), NONE);
        due("begin(3)", x.begin(3), 2);
        due("begin(3)", x.begin(3), 5);
        duePage(x, 2, 2, NONE, NONE, 0, 0);
        due("begin(3)", x.begin(3), NONE);
    }

    private static void fork() {
        promise = "3 fork";
        PagerHouse x = new PagerHouse(4, 2);
        x.begin(1);
        x.begin(3);
        dueWrite(x, 1, 16, 7, 1);
        due("end(0)", x.end(0), true);
        due("fork(1)", x.fork(1), 0);
        due("fork(0)", x.fork(0), 2);
        duePage(x, 0, 1, 0, NONE, 3, 1);
        duePage(x, 2, 1, 0, NONE, 3, 1);
        duePage(x, 2, 0, NONE, NONE, 0, 0);
        duePage(x, 2, 2, NONE, NONE, 0, 0);
        duePage(x, 2, 3, NONE, NONE, NONE, NONE);
        dueRead(x, 2, 16, 7);
        dueLook(x, 3, 3, 2, 0, 1, 1, 2, 1, 0, 0, 0);
    }

    private static void forkNone() {
        promise = "3 fork NONE";
        PagerHouse x = new PagerHouse(2, 0);
        for (int process : new int[] {0, -1, 8, Integer.MIN_VALUE, Integer.MAX_VALUE}) {
            due("fork(" + process + ")", x.fork(process), NONE);
        }
        x.begin(1);
        dueWrite(x, 0, 0, 1, 1);
        for (int process = 1; process < 8; process++) {
            due("fork(0)", x.fork(0), process);
        }
        due("fork(0) of nine", x.fork(0), NONE);
        duePage(x, 7, 0, 0, NONE, 8, 1);
        due("look(0)", x.look(0), 8);
    }

    private static void end() {
        promise = "4 end";
        PagerHouse x = new PagerHouse(2, 1);
        for (int process : new int[] {0, -1, 8, Integer.MIN_VALUE, Integer.MAX_VALUE}) {
            due("end(" + process + ")", x.end(process), false);
        }
        x.begin(3);
        x.write(0, 0, 1);
        x.write(0, 16, 2);
        x.write(0, 32, 3);
        dueLook(x, 1, 0, 0, 1, 3, 2);
        due("end(0)", x.end(0), true);
        dueLook(x, 0, 2, 1, 1, 0, 0, 3, 3, 0, 1, 0);
        dueFrame(x, 0, 0, NONE, NONE);
        due("frame(0, 16)", x.frame(0, 16), 3);
        dueStored(x, 0, 0, 1);
        due("end(0)", x.end(0), false);
        due("begin(3)", x.begin(3), 0);
        dueRead(x, 0, 0, 0);
        dueRead(x, 0, 16, 0);
        due("look(7)", x.look(7), 3);
    }

    private static void endSharesAndFrees() {
        promise = "4 end of a fork";
        PagerHouse x = new PagerHouse(3, 0);
        x.begin(2);
        x.write(0, 0, 1);
        x.fork(0);
        x.write(1, 16, 2);
        due("end(0)", x.end(0), true);
        duePage(x, 1, 0, 0, NONE, 1, 1);
        dueFrame(x, 0, 1, 1, 0);
        due("look(4)", x.look(4), 2);
        dueWrite(x, 1, 0, 9, 0);
        due("end(1)", x.end(1), true);
        dueLook(x, 0, 3, 0, 0, 0, 0, 3, 2, 0, 0, 0);
    }

    private static void widestNeighbours() {
        promise = "3 and 4 with 32 pages";
        PagerHouse x = new PagerHouse(16, 0);
        for (int process = 0; process < 7; process++) {
            due("begin(32)", x.begin(32), process);
        }
        for (int process = 0; process < 7; process++) {
            dueWrite(x, process, 0, 10 + process, 1);
            dueWrite(x, process, 511, 20 + process, 1);
        }
        due("fork(6)", x.fork(6), 7);
        due("end(3)", x.end(3), true);
        due("fork(7)", x.fork(7), 3);
        dueRead(x, 4, 0, 14);
        duePage(x, 4, 0, 8, NONE, 1, 1);
        duePage(x, 3, 31, 13, NONE, 3, 1);
        due("end(2)", x.end(2), true);
        due("end(7)", x.end(7), true);
        duePage(x, 3, 0, 12, NONE, 2, 1);
        dueRead(x, 3, 0, 16);
        dueRead(x, 3, 511, 26);
        dueRead(x, 1, 511, 21);
        dueLook(x, 6, 6, 0, 0, 10, 10);
    }

    private static void read() {
        promise = "5 read";
        PagerHouse x = new PagerHouse(2, 2);
        x.begin(2);
        dueRead(x, 0, 0, 0);
        dueRead(x, 0, 31, 0);
        dueLook(x, 1, 2, 2, 0, 0, 0, 2, 0, 0, 0, 0);
        x.write(0, 15, -7);
        x.write(0, 16, Integer.MIN_VALUE);
        dueRead(x, 0, 15, -7);
        dueRead(x, 0, 14, 0);
        dueRead(x, 0, 16, Integer.MIN_VALUE);
        dueLook(x, 1, 0, 2, 0, 2, 2, 7, 2, 0, 0, 0);
    }

    private static void readBringsBySecondChance() {
        promise = "5 read brings";
        PagerHouse x = new PagerHouse(3, 4);
        x.begin(4);
        for (int page = 0; page < 4; page++) {
            dueWrite(x, 0, page * 16 + page, 10 + page, 1);
        }
        // The last write cleared all three, took frame 0 and left the hand at 1.
        dueFrame(x, 0, 1, 0, 3);
        dueFrame(x, 1, 0, 0, 1);
        dueFrame(x, 2, 0, 0, 2);
        due("look(3)", x.look(3), 1);
        duePage(x, 0, 0, NONE, 0, 1, 0);
        dueRead(x, 0, 17, 11);
        dueFrame(x, 1, 1, 0, 1);
        // Frame 1 gets its second chance, frame 2 goes, and the hand comes round to 0.
        dueRead(x, 0, 0, 10);
        duePage(x, 0, 0, 2, 0, 1, 0);
        duePage(x, 0, 1, 1, NONE, 1, 1);
        duePage(x, 0, 2, NONE, 1, 1, 0);
        dueFrame(x, 0, 1, 0, 3);
        dueFrame(x, 1, 0, 0, 1);
        dueFrame(x, 2, 1, 0, 0);
        dueStored(x, 1, 2, 12);
        dueLook(x, 1, 0, 2, 0, 4, 2, 6, 5, 1, 2, 0);
        dueRead(x, 0, 1, 0);
        dueLook(x, 1, 0, 2, 0, 4, 2, 7, 5, 1, 2, 0);
    }

    private static void readWrong() {
        promise = "5 read wrong";
        PagerHouse x = new PagerHouse(2, 2);
        dueRead(x, 0, 0, INDEX);
        x.begin(2);
        for (int process : new int[] {1, -1, 8, Integer.MIN_VALUE, Integer.MAX_VALUE}) {
            dueRead(x, process, 0, INDEX);
        }
        for (int address : new int[] {-1, -15, -16, 32, 512, Integer.MIN_VALUE, Integer.MAX_VALUE}) {
            dueRead(x, 0, address, INDEX);
        }
        due("look(6)", x.look(6), 0);
    }

    private static void readWithoutRoom() {
        promise = "5 read without room";
        PagerHouse x = new PagerHouse(2, 1);
        x.begin(3);
        x.write(0, 0, 1);
        x.write(0, 16, 2);
        x.write(0, 32, 3);
        dueLook(x, 1, 0, 0, 1, 3, 2, 3, 3, 0, 1, 0);
        dueRead(x, 0, 0, STATE);
        dueRead(x, 1, 0, INDEX);
        dueRead(x, 0, 48, INDEX);
        dueLook(x, 1, 0, 0, 1, 3, 2, 3, 3, 0, 1, 0);
        dueFrame(x, 0, 1, 0, 2);
        dueFrame(x, 1, 0, 0, 1);
        due("drop(0, 1)", x.drop(0, 1), true);
        dueRead(x, 0, 0, 1);
        duePage(x, 0, 0, 1, 0, 1, 0);
    }

    private static void write() {
        promise = "6 write";
        PagerHouse x = new PagerHouse(2, 2);
        x.begin(2);
        dueWrite(x, 0, 3, 0, 1);
        duePage(x, 0, 0, 0, NONE, 1, 1);
        dueWrite(x, 0, 4, 8, 0);
        dueWrite(x, 0, 31, 9, 1);
        dueFrame(x, 1, 1, 0, 1);
        due("frame(1, 31)", x.frame(1, 31), 9);
        due("drop(0, 0)", x.drop(0, 0), true);
        due("frame(0, 20)", x.frame(0, 20), 8);
        dueWrite(x, 0, 0, 5, 1);
        due("frame(0, 16)", x.frame(0, 16), 5);
        due("frame(0, 20)", x.frame(0, 20), 0);
        dueLook(x, 1, 0, 2, 0, 2, 2, 4, 3, 0, 0, 0);
    }

    private static void writeCopies() {
        promise = "6 write copies";
        PagerHouse x = new PagerHouse(3, 3);
        x.begin(1);
        x.write(0, 0, 1);
        x.write(0, 15, 2);
        x.fork(0);
        dueWrite(x, 0, 0, 3, 1);
        duePage(x, 0, 0, 1, NONE, 1, 1);
        duePage(x, 1, 0, 0, NONE, 1, 1);
        dueRead(x, 0, 0, 3);
        dueRead(x, 0, 15, 2);
        dueRead(x, 1, 0, 1);
        dueWrite(x, 1, 0, 4, 0);
        dueRead(x, 0, 0, 3);
        dueLook(x, 2, 1, 3, 0, 2, 2, 8, 2, 0, 0, 1);
    }

    private static void writeBringsAndCopies() {
        promise = "6 write brings and copies";
        PagerHouse x = new PagerHouse(2, 4);
        x.begin(3);
        x.write(0, 1, 1);
        x.fork(0);
        x.write(0, 16, 2);
        x.write(0, 32, 3);
        duePage(x, 0, 0, NONE, 0, 2, 0);
        // The hand is at 1: frame 1 goes for what is brought and is KEPT, so frame 0 goes for the copy in the second lap.
        dueFrame(x, 0, 1, 0, 2);
        dueFrame(x, 1, 0, 0, 1);
        dueWrite(x, 1, 1, 4, 2);
        duePage(x, 0, 0, 1, 0, 1, 0);
        duePage(x, 1, 0, 0, NONE, 1, 1);
        dueFrame(x, 0, 1, 1, 0);
        dueFrame(x, 1, 0, 0, 0);
        dueLook(x, 2, 0, 1, 1, 4, 1, 4, 5, 1, 3, 1);
        due("frame(1, 17)", x.frame(1, 17), 1);
        due("frame(0, 17)", x.frame(0, 17), 4);
        dueStored(x, 0, 1, 1);
        dueStored(x, 1, 0, 2);
        dueStored(x, 2, 0, 3);
    }

    private static void writeKeepsTheFrameItCopies() {
        promise = "6 write keeps";
        PagerHouse x = new PagerHouse(2, 2);
        x.begin(2);
        x.write(0, 0, 1);
        x.write(0, 16, 2);
        x.fork(0);
        dueWrite(x, 1, 0, 3, 1);
        // Frame 0 was passed and is still USED; frame 1 was cleared in the first lap and taken in the second.
        dueFrame(x, 0, 1, 0, 0);
        dueFrame(x, 1, 1, 1, 0);
        duePage(x, 0, 1, NONE, 0, 2, 0);
        duePage(x, 1, 1, NONE, 0, 2, 0);
        dueLook(x, 2, 0, 1, 0, 3, 2, 3, 3, 0, 1, 1);
    }

    private static void writeStoresInTheSectorItHas() {
        promise = "6 write stores again";
        PagerHouse x = new PagerHouse(2, 4);
        x.begin(4);
        x.write(0, 0, 1);
        x.write(0, 16, 2);
        due("flush()", x.flush(), 2);
        due("drop(0, 0)", x.drop(0, 0), true);
        x.write(0, 32, 3);
        dueWrite(x, 0, 16, 4, 0);
        duePage(x, 0, 1, 1, 1, 1, 1);
        dueStored(x, 1, 0, 2);
        x.write(0, 48, 5);
        duePage(x, 0, 2, NONE, 0, 1, 0);
        x.write(0, 0, 6);
        duePage(x, 0, 1, NONE, 1, 1, 0);
        dueStored(x, 1, 0, 4);
        dueStored(x, 0, 0, 3);
        dueLook(x, 1, 0, 2, 0, 4, 2, 6, 5, 0, 4, 0);
    }

    private static void writeEvictsCleanWithoutStoring() {
        promise = "6 write evicts what is not DIRTY";
        PagerHouse x = new PagerHouse(2, 3);
        x.begin(3);
        x.write(0, 0, 1);
        x.write(0, 16, 2);
        due("flush()", x.flush(), 2);
        dueWrite(x, 0, 32, 3, 1);
        dueLook(x, 1, 0, 1, 1, 3, 1, 3, 3, 0, 2, 0);
        duePage(x, 0, 0, NONE, 0, 1, 0);
        duePage(x, 0, 1, 1, 1, 1, 0);
        dueRead(x, 0, 0, 1);
        duePage(x, 0, 0, 1, 0, 1, 0);
        duePage(x, 0, 1, NONE, 1, 1, 0);
        dueLook(x, 1, 0, 1, 0, 3, 1, 4, 4, 1, 2, 0);
    }

    private static void writeWrong() {
        promise = "6 write wrong";
        PagerHouse x = new PagerHouse(2, 0);
        dueWrite(x, 0, 0, 1, INDEX);
        x.begin(3);
        x.write(0, 0, 1);
        x.write(0, 16, 1);
        for (int process : new int[] {1, -1, 8, Integer.MIN_VALUE, Integer.MAX_VALUE}) {
            dueWrite(x, process, 32, 1, INDEX);
        }
        for (int address : new int[] {-1, -15, -16, 48, 512, Integer.MIN_VALUE, Integer.MAX_VALUE}) {
            dueWrite(x, 0, address, 1, INDEX);
        }
        dueLook(x, 1, 0, 0, 0, 2, 2, 2, 2, 0, 0, 0);
    }

    private static void writeWithoutRoom() {
        promise = "6 write without room";
        PagerHouse x = new PagerHouse(2, 2);
        x.begin(3);
        x.write(0, 0, 1);
        x.write(0, 16, 2);
        due("flush()", x.flush(), 2);
        // No sector would be needed, for frame 0 holds what is not DIRTY; the rule counts FREE ones all the same.
        dueWrite(x, 0, 32, 3, STATE);
        dueFrame(x, 0, 1, 0, 0);
        dueFrame(x, 1, 1, 0, 1);
        duePage(x, 0, 2, NONE, NONE, 0, 0);
        dueLook(x, 1, 0, 0, 0, 2, 0, 2, 2, 0, 2, 0);
        dueWrite(x, 0, 0, 5, 0);
        x.fork(0);
        dueWrite(x, 1, 0, 6, STATE);
        duePage(x, 1, 0, 0, 0, 2, 1);
        dueRead(x, 1, 0, 5);
        due("end(0)", x.end(0), true);
        dueWrite(x, 1, 0, 6, 0);
    }

    private static void writeRoomCountsFramesAndSectors() {
        promise = "6 write with room for one of two";
        PagerHouse x = new PagerHouse(2, 2);
        x.begin(3);
        x.write(0, 0, 1);
        x.write(0, 16, 2);
        x.write(0, 32, 3);
        x.fork(0);
        duePage(x, 0, 0, NONE, 0, 2, 0);
        dueWrite(x, 1, 0, 4, STATE);
        dueLook(x, 2, 0, 1, 1, 3, 2, 3, 3, 0, 1, 0);
        due("drop(0, 1)", x.drop(0, 1), true);
        due("drop(1, 1)", x.drop(1, 1), true);
        dueWrite(x, 1, 0, 4, 2);
        duePage(x, 0, 0, 1, 0, 1, 0);
        duePage(x, 1, 0, 0, NONE, 1, 1);
        duePage(x, 0, 2, NONE, 1, 2, 0);
        dueLook(x, 2, 0, 0, 1, 3, 1, 4, 5, 1, 2, 1);
    }

    private static void drop() {
        promise = "7 drop";
        PagerHouse x = new PagerHouse(2, 2);
        due("drop(0, 0)", x.drop(0, 0), false);
        x.begin(2);
        due("drop(0, 0)", x.drop(0, 0), false);
        x.write(0, 0, 1);
        x.write(0, 16, 2);
        due("flush()", x.flush(), 2);
        for (int page : new int[] {-1, 2, 32, Integer.MIN_VALUE, Integer.MAX_VALUE}) {
            due("drop(0, " + page + ")", x.drop(0, page), false);
        }
        for (int process : new int[] {-1, 1, 8, Integer.MIN_VALUE, Integer.MAX_VALUE}) {
            due("drop(" + process + ", 0)", x.drop(process, 0), false);
        }
        dueLook(x, 1, 0, 0, 0, 2, 0, 2, 2, 0, 2, 0);
        due("drop(0, 0)", x.drop(0, 0), true);
        due("drop(0, 0)", x.drop(0, 0), false);
        duePage(x, 0, 0, NONE, NONE, 0, 0);
        dueFrame(x, 0, 0, NONE, NONE);
        dueLook(x, 1, 1, 1, 0, 1, 0, 2, 2, 0, 2, 0);
        dueRead(x, 0, 0, 0);
        dueRead(x, 0, 16, 2);
    }

    private static void dropShared() {
        promise = "7 drop of a fork";
        PagerHouse x = new PagerHouse(2, 2);
        x.begin(1);
        x.write(0, 0, 1);
        x.fork(0);
        due("drop(0, 0)", x.drop(0, 0), true);
        duePage(x, 0, 0, NONE, NONE, 0, 0);
        duePage(x, 1, 0, 0, NONE, 1, 1);
        dueFrame(x, 0, 1, 1, 0);
        dueRead(x, 0, 0, 0);
        dueRead(x, 1, 0, 1);
        due("drop(1, 0)", x.drop(1, 0), true);
        due("look(4)", x.look(4), 0);
        due("look(1)", x.look(1), 2);
    }

    private static void flush() {
        promise = "8 flush";
        PagerHouse x = new PagerHouse(3, 3);
        due("flush()", x.flush(), 0);
        x.begin(3);
        x.write(0, 32, 3);
        x.write(0, 0, 1);
        x.write(0, 16, 2);
        due("flush()", x.flush(), 3);
        duePage(x, 0, 2, 0, 0, 1, 0);
        duePage(x, 0, 0, 1, 1, 1, 0);
        duePage(x, 0, 1, 2, 2, 1, 0);
        dueStored(x, 0, 0, 3);
        dueStored(x, 1, 0, 1);
        dueStored(x, 2, 0, 2);
        dueFrame(x, 0, 1, 0, 2);
        dueLook(x, 1, 0, 0, 0, 3, 0, 3, 3, 0, 3, 0);
        due("flush()", x.flush(), 0);
        x.write(0, 1, 7);
        due("look(5)", x.look(5), 1);
        dueStored(x, 1, 1, 0);
        // No sector is FREE, and none is needed.
        due("flush()", x.flush(), 1);
        dueStored(x, 1, 1, 7);
        dueLook(x, 1, 0, 0, 0, 3, 0, 4, 3, 0, 4, 0);
    }

    private static void flushNone() {
        promise = "8 flush NONE";
        PagerHouse x = new PagerHouse(3, 2);
        x.begin(3);
        x.write(0, 0, 1);
        due("flush()", x.flush(), 1);
        x.write(0, 0, 4);
        x.write(0, 16, 2);
        x.write(0, 32, 3);
        due("flush()", x.flush(), NONE);
        dueStored(x, 0, 0, 1);
        dueStored(x, 1, 0, 0);
        dueLook(x, 1, 0, 1, 0, 3, 3, 4, 3, 0, 1, 0);
        duePage(x, 0, 0, 0, 0, 1, 1);
        due("drop(0, 1)", x.drop(0, 1), true);
        due("flush()", x.flush(), 2);
        dueStored(x, 0, 0, 4);
        dueStored(x, 1, 0, 3);
        PagerHouse none = new PagerHouse(2, 0);
        due("flush() without sectors", none.flush(), 0);
        none.begin(1);
        none.write(0, 0, 1);
        due("flush() without sectors", none.flush(), NONE);
    }

    private static void page() {
        promise = "9 page";
        PagerHouse x = new PagerHouse(2, 2);
        duePage(x, 0, 0, NONE, NONE, NONE, NONE);
        x.begin(2);
        x.write(0, 16, 1);
        x.fork(0);
        duePage(x, 0, 0, NONE, NONE, 0, 0);
        duePage(x, 1, 1, 0, NONE, 2, 1);
        due("flush()", x.flush(), 1);
        duePage(x, 1, 1, 0, 0, 2, 0);
        for (int what : new int[] {-1, 4, Integer.MIN_VALUE, Integer.MAX_VALUE}) {
            due("page(0, 1, " + what + ")", x.page(0, 1, what), NONE);
            due("page(0, 0, " + what + ")", x.page(0, 0, what), NONE);
        }
        for (int page : new int[] {-1, 2, 32, Integer.MIN_VALUE, Integer.MAX_VALUE}) {
            duePage(x, 0, page, NONE, NONE, NONE, NONE);
        }
        for (int process : new int[] {-1, 2, 8, Integer.MIN_VALUE, Integer.MAX_VALUE}) {
            duePage(x, process, 0, NONE, NONE, NONE, NONE);
        }
    }

    private static void frame() {
        promise = "10 frame";
        PagerHouse x = new PagerHouse(2, 2);
        x.begin(4);
        x.begin(4);
        for (int i = 0; i < 16; i++) {
            x.write(1, 48 + i, 100 + i);
        }
        dueFrame(x, 0, 1, 1, 3);
        x.end(0);
        x.fork(1);
        dueFrame(x, 0, 1, 0, 3);
        for (int i = 0; i < 16; i++) {
            due("frame(0, " + (16 + i) + ")", x.frame(0, 16 + i), 100 + i);
        }
        for (int what : new int[] {-1, 3, 15, 32, Integer.MIN_VALUE, Integer.MAX_VALUE}) {
            due("frame(0, " + what + ")", x.frame(0, what), NONE);
            due("frame(1, " + what + ")", x.frame(1, what), NONE);
        }
        for (int f : new int[] {-1, 2, 16, Integer.MIN_VALUE, Integer.MAX_VALUE}) {
            dueFrame(x, f, NONE, NONE, NONE);
            due("frame(" + f + ", 16)", x.frame(f, 16), NONE);
        }
        x.drop(0, 3);
        dueFrame(x, 0, 1, 1, 3);
        x.drop(1, 3);
        dueFrame(x, 0, 0, NONE, NONE);
        due("frame(0, 31)", x.frame(0, 31), 115);
        due("frame(1, 16)", x.frame(1, 16), 0);
    }

    private static void stored() {
        promise = "11 stored";
        PagerHouse x = new PagerHouse(2, 3);
        x.begin(1);
        for (int i = 0; i < 16; i++) {
            x.write(0, i, 50 + i);
        }
        dueStored(x, 0, 0, 0);
        due("flush()", x.flush(), 1);
        x.write(0, 0, 9);
        for (int i = 0; i < 16; i++) {
            dueStored(x, 0, i, 50 + i);
        }
        dueStored(x, 1, 0, 0);
        due("drop(0, 0)", x.drop(0, 0), true);
        due("look(2)", x.look(2), 3);
        dueStored(x, 0, 15, 65);
        for (int i : new int[] {-1, 16, Integer.MIN_VALUE, Integer.MAX_VALUE}) {
            dueStored(x, 0, i, INDEX);
        }
        for (int sector : new int[] {-1, 3, 64, Integer.MIN_VALUE, Integer.MAX_VALUE}) {
            dueStored(x, sector, 0, INDEX);
        }
        dueStored(new PagerHouse(2, 0), 0, 0, INDEX);
    }

    private static void look() {
        promise = "12 look";
        PagerHouse x = new PagerHouse(2, 5);
        x.begin(3);
        x.write(0, 0, 1);
        x.write(0, 16, 2);
        x.fork(0);
        x.write(1, 32, 3);
        dueLook(x, 2, 0, 4, 1, 3, 2, 3, 3, 0, 1, 0);
        x.write(1, 0, 4);
        dueLook(x, 2, 0, 2, 1, 4, 1, 4, 5, 1, 3, 1);
        answer(() -> x.read(0, -1));
        answer(() -> x.write(3, 0, 1));
        dueLook(x, 2, 0, 2, 1, 4, 1, 4, 5, 1, 3, 1);
        due("flush()", x.flush(), 1);
        dueLook(x, 2, 0, 1, 1, 4, 0, 4, 5, 1, 4, 1);
        for (int what : new int[] {-1, 11, Integer.MIN_VALUE, Integer.MAX_VALUE}) {
            due("look(" + what + ")", x.look(what), NONE);
        }
        due("NONE", NONE, -1);
    }
}
