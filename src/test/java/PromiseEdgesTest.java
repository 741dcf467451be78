/** A test for each sentence of the promises that names a boundary. Script tells how they are written. */
public final class PromiseEdgesTest {
    /** Three pages on two frames: page 0 is in sector 0 alone, pages 2 and 1 in frames 0 and 1; the hand is at 1. */
    private static final String THREE_ON_TWO = """
        begin 4 = 0
        write 0 0 10 = 1
        write 0 16 11 = 1
        write 0 32 12 = 1
        page 0 0 = NONE 0 1 0
        page 0 1 = 1 NONE 1 1
        page 0 2 = 0 NONE 1 1
        page 0 3 = NONE NONE 0 0
        hand = 1
        """;

    private PromiseEdgesTest() {
    }

    public static void main(String[] args) {
        Watchdog.start();
        newObjectCounts();
        newObjectIsBare();
        begin();
        beginNone();
        fork();
        forkShares();
        forkNone();
        end();
        endFalse();
        read();
        readThrows();
        write();
        writeThrows();
        drop();
        dropFalse();
        flush();
        flushNone();
        page();
        pageNone();
        frame();
        frameNone();
        stored();
        lookStates();
        lookCounts();
        Script.finish();
    }

    private static void newObjectCounts() {
        for (int frames : new int[] {2, 3, 15, 16}) {
            Script.sentence("1: F frames (2 .. 16): " + frames, "new " + frames + " 0", countedFrames(frames));
        }
        for (int frames : new int[] {Integer.MIN_VALUE, -16, -1, 0, 1}) {
            Script.sentence("1: too few frames count as 2: " + frames, "new " + frames + " 0", countedFrames(2));
        }
        for (int frames : new int[] {17, 18, 64, Integer.MAX_VALUE}) {
            Script.sentence("1: too many frames count as 16: " + frames, "new " + frames + " 0", countedFrames(16));
        }
        for (int sectors : new int[] {0, 1, 2, 63, 64}) {
            Script.sentence("1: S sectors (0 .. 64): " + sectors, "new 2 " + sectors, countedSectors(sectors));
        }
        for (int sectors : new int[] {Integer.MIN_VALUE, -64, -1}) {
            Script.sentence("1: too few sectors count as 0: " + sectors, "new 2 " + sectors, countedSectors(0));
        }
        for (int sectors : new int[] {65, 66, Integer.MAX_VALUE}) {
            Script.sentence("1: too many sectors count as 64: " + sectors, "new 2 " + sectors, countedSectors(64));
        }
    }

    private static String countedFrames(int frames) {
        return "freeFrames = " + frames
            + "\nfreeSectors = 0"
            + "\nframe {0.." + (frames - 1) + "} = 0 NONE NONE" + " 0 NONE NONE".repeat(frames - 1)
            + "\nframe " + frames + " = NONE"
            + "\nbegin 32 = 0\n"
            + Script.each(0, frames - 1, "write 0 %a 1 = 1")
            + "write 0 511 1 = IllegalStateException";
    }

    private static String countedSectors(int sectors) {
        String there = sectors == 0 ? "" : "stored {0.." + (sectors - 1) + "} 0 = 0\n";
        return "freeSectors = " + sectors + "\nfreeFrames = 2\n" + there
            + "stored {-1 " + sectors + " " + (sectors + 1) + "} 0 = IndexOutOfBoundsException";
    }

    private static void newObjectIsBare() {
        Script.sentence("1: no PROCESS", """
            new 2 2
            processes = 0
            page {-1..8} 0 = NONE
            read {-1..8} 0 = IndexOutOfBoundsException
            write {-1..8} 0 1 = IndexOutOfBoundsException
            fork {-1..8} = NONE
            end {-1..8} = false
            drop {-1..8} 0 = false
            """);
        Script.sentence("1: all FREE, not USED", """
            new 16 64
            freeFrames = 16
            freeSectors = 64
            frame {0..15} 0 = 0
            frame {0..15} {1 2} = NONE
            bodies = 0
            dirty = 0
            flush = 0
            """);
        Script.sentence("1: words 0", """
            new 16 64
            frame {0..15} {16..31} = 0
            new 16 64
            stored {0..31} {0..15} = 0
            new 16 64
            stored {32..63} {0..15} = 0
            """);
        Script.sentence("1 and 12: the HAND is 0, and nothing has happened up to now", """
            new 16 64
            look {3..10} = 0
            """);
    }

    private static void begin() {
        Script.sentence("2: so many PAGES (1 .. 32), all EMPTY", """
            new 2 0
            begin 1 = 0
            begin 2 = 1
            begin 31 = 2
            begin 32 = 3
            page 0 0 = NONE NONE 0 0
            page 0 1 = NONE
            page 1 1 = NONE NONE 0 0
            page 1 2 = NONE
            page 2 30 = NONE NONE 0 0
            page 2 31 = NONE
            page 3 {0..31} {2 3} = 0
            page 3 32 = NONE
            read 3 {0 511} = 0
            read 3 512 = IndexOutOfBoundsException
            bodies = 0
            taken = 0
            """);
        Script.sentence("2: all EMPTY, where a PROCESS was before", """
            new 2 2
            begin 3 = 0
            write 0 0 1 = 1
            write 0 16 2 = 1
            write 0 32 3 = 1
            end 0 = true
            begin 4 = 0
            page 0 {0..3} {0 1} = NONE
            page 0 {0..3} {2 3} = 0
            read 0 {0 16 32 48} = 0
            end 0 = true
            begin 1 = 0
            page 0 1 = NONE
            read 0 16 = IndexOutOfBoundsException
            """);
        Script.sentence("2: its number, the least that no PROCESS has", """
            new 2 0
            """, Script.each(0, 7, "begin 1 = %d"), """
            end {6 0 3} = true
            begin 1 = 0
            begin 1 = 3
            end 1 = true
            begin 1 = 1
            begin 1 = 6
            begin 1 = NONE
            """);
        Script.sentence("2: no FRAME is needed to begin", """
            new 2 0
            begin 2 = 0
            write 0 0 1 = 1
            write 0 16 1 = 1
            begin 32 = 1
            processes = 2
            """);
    }

    private static void beginNone() {
        Script.sentence("2: NONE: another number of PAGES", """
            new 2 2
            begin {MIN -32 -1 0 33 34 64 MAX} = NONE
            processes = 0
            begin 1 = 0
            """);
        Script.sentence("2: NONE: there are eight", """
            new 2 2
            """, Script.each(0, 6, "begin 1 = %d"), """
            begin 32 = 7
            begin {1 32} = NONE
            begin {0 33} = NONE
            processes = 8
            end 4 = true
            begin {0 33} = NONE
            begin 32 = 4
            """);
    }

    private static void fork() {
        Script.sentence("3: its PAGES are of the same BODIES, or EMPTY", """
            new 2 2
            """, THREE_ON_TWO, """
            fork 0 = 1
            page 1 0 = NONE 0 2 0
            page 1 1 = 1 NONE 2 1
            page 1 2 = 0 NONE 2 1
            page 1 3 = NONE NONE 0 0
            page 1 4 = NONE
            page 0 {0..3} 2 = 2 2 2 0
            bodies = 3
            read 1 {16 32 48} = 11 12 0
            read 1 0 = 10
            page 0 0 0 = 1
            """);
        Script.sentence("3: a fork of a fork, and one of nothing but EMPTY PAGES", """
            new 2 0
            begin 2 = 0
            fork 0 = 1
            page 1 {0 1} = NONE NONE 0 0 NONE NONE 0 0
            page 1 2 = NONE
            write 1 16 5 = 1
            fork 1 = 2
            fork 2 = 3
            page 3 1 = 0 NONE 3 1
            page 0 1 = NONE NONE 0 0
            read 3 16 = 5
            """);
        Script.sentence("3: its number, the least", """
            new 2 0
            begin 1 = 0
            """, Script.each(1, 7, "fork 0 = %d"), """
            end {5 2} = true
            fork 7 = 2
            fork 7 = 5
            end 0 = true
            fork 7 = 0
            end {1 2 4 7} = true
            fork 3 = 1
            fork 3 = 2
            fork 3 = 4
            fork 3 = 7
            """);
        Script.sentence("3: A PROCESS like this one, where a wider one was before, with 32 PAGES and with 1", """
            new 3 0
            begin 1 = 0
            begin 32 = 1
            write 1 511 3 = 1
            fork 1 = 2
            page 2 31 = 0 NONE 2 1
            page 2 32 = NONE
            end 1 = true
            write 0 0 7 = 1
            fork 0 = 1
            page 1 0 = 1 NONE 2 1
            page 1 {1 31 32} = NONE
            page 2 31 = 0 NONE 1 1
            page 2 0 = NONE NONE 0 0
            """);
        Script.sentence("3: its PAGES are of the same BODIES, all 32; the neighbours keep theirs", """
            new 16 0
            """, Script.each(0, 6, "begin 32 = %d"), Script.each(0, 6, "write %d 0 1%d = 1"),
            Script.each(0, 6, "write %d 511 2%d = 1"), """
            fork 6 = 7
            end 1 = true
            fork 2 = 1
            page {0..7} 0 2 = 1 2 2 1 1 1 2 2
            page {0..7} 31 2 = 1 2 2 1 1 1 2 2
            read {0..7} 0 = 10 12 12 13 14 15 16 16
            read {0..7} 511 = 20 22 22 23 24 25 26 26
            bodies = 12
            """);
    }

    private static void forkShares() {
        Script.sentence("3: no FRAME is TAKEN, none USED, nothing copied or BROUGHT", """
            new 2 1
            """, THREE_ON_TWO, """
            frame {0 1} 0 = 1 0
            fork 0 = 1
            frame {0 1} 0 = 1 0
            hand = 1
            freeFrames = 0
            freeSectors = 0
            dirty = 2
            look {6..10} = 3 3 0 1 0
            """);
        Script.sentence("3: from now on each has its own: what one writes, drops or ends, the other keeps", """
            new 4 0
            begin 2 = 0
            write 0 0 1 = 1
            write 0 16 2 = 1
            fork 0 = 1
            write 0 0 3 = 1
            read 1 0 = 1
            drop 1 1 = true
            read 0 16 = 2
            end 0 = true
            read 1 {0 16} = 1 0
            freeFrames = 3
            """);
    }

    private static void forkNone() {
        Script.sentence("3: NONE: there is no such PROCESS", """
            new 2 0
            fork 0 = NONE
            begin 1 = 0
            begin 1 = 1
            fork {MIN -1 2 7 8 MAX} = NONE
            end 0 = true
            fork 0 = NONE
            processes = 1
            """);
        Script.sentence("3: NONE: there are eight", """
            new 2 0
            begin 1 = 0
            write 0 0 1 = 1
            """, Script.each(1, 7, "fork 0 = %d"), """
            fork {0 7} = NONE
            fork {-1 8} = NONE
            page 0 0 = 0 NONE 8 1
            processes = 8
            """);
    }

    private static void end() {
        Script.sentence("4: A PROCESS is no more: true", """
            new 2 1
            """, THREE_ON_TWO, """
            end 0 = true
            processes = 0
            bodies = 0
            freeFrames = 2
            freeSectors = 1
            page 0 {0..3} = NONE
            read 0 {0 48} = IndexOutOfBoundsException
            write 0 {0 48} 1 = IndexOutOfBoundsException
            fork 0 = NONE
            drop 0 1 = false
            # nothing is STORED for it, and the HAND stays
            storings = 1
            hand = 1
            """);
        Script.sentence("4: what others hold stays, in FRAME and SECTOR", """
            new 2 1
            """, THREE_ON_TWO, """
            fork 0 = 1
            fork 1 = 2
            end 1 = true
            page 0 {0..3} 2 = 2 2 2 0
            end 0 = true
            page 2 0 = NONE 0 1 0
            page 2 1 = 1 NONE 1 1
            page 2 2 = 0 NONE 1 1
            frame 0 = 1 2 2
            frame 1 = 0 2 1
            processes = 1
            bodies = 3
            end 2 = true
            bodies = 0
            freeFrames = 2
            freeSectors = 1
            """);
        Script.sentence("4: the first and the last of eight, with 32 PAGES", """
            new 16 0
            """, Script.each(0, 7, "begin 32 = %d"), Script.each(0, 7, "write %d 0 1%d = 1"),
            Script.each(0, 7, "write %d 511 2%d = 1"), """
            end {0 7} = true
            freeFrames = 4
            read {1..6} 0 = 11 12 13 14 15 16
            read {1..6} 511 = 21 22 23 24 25 26
            processes = 6
            """);
    }

    private static void endFalse() {
        Script.sentence("4: false if there is none such", """
            new 2 0
            end {MIN -1 0 7 8 MAX} = false
            begin 1 = 0
            write 0 0 1 = 1
            end {MIN -1 1 7 8 MAX} = false
            end 0 = true
            end 0 = false
            processes = 0
            """);
    }

    private static void read() {
        Script.sentence("5: READING: each word, as it was written, whatever it is", """
            new 2 2
            begin 2 = 0
            write 0 0 MIN = 1
            write 0 15 MAX = 0
            write 0 16 -1 = 1
            write 0 31 0 = 0
            read 0 {0 15 16 31} = MIN MAX -1 0
            read 0 {1 14 17 30} = 0
            """);
        Script.sentence("5: READING: what has gone to a SECTOR comes with all its words", """
            new 2 3
            begin 3 = 0
            """, "write 0 0 100 = 1", Script.each(1, 9, "write 0 %d 10%d = 0"),
            Script.each(10, 15, "write 0 %d 1%d = 0"), """
            write 0 16 2 = 1
            write 0 32 3 = 1
            page 0 0 = NONE 0 1 0
            read 0 {0..15} = 100 101 102 103 104 105 106 107 108 109 110 111 112 113 114 115
            brought = 1
            """);
    }

    private static void readThrows() {
        Script.sentence("5: IndexOutOfBoundsException: no such PROCESS", """
            new 2 2
            read 0 0 = IndexOutOfBoundsException
            begin 1 = 0
            begin 1 = 1
            end 0 = true
            read {MIN -1 0 2 7 8 MAX} 0 = IndexOutOfBoundsException
            read 1 0 = 0
            accesses = 1
            """);
        Script.sentence("5: IndexOutOfBoundsException: no such ADDRESS", """
            new 2 2
            begin 1 = 0
            begin 32 = 1
            read 0 {0 15} = 0
            read 0 {MIN -17 -16 -15 -1 16 17 511 512 MAX} = IndexOutOfBoundsException
            read 1 {0 511} = 0
            read 1 {MIN -1 512 513 MAX} = IndexOutOfBoundsException
            accesses = 4
            """);
        Script.sentence("5: IllegalStateException: there is no room", """
            new 2 1
            """, THREE_ON_TWO, """
            read 0 {0 15} = IllegalStateException
            read 0 {16 32 48} = 11 12 0
            accesses = 6
            drop 0 2 = true
            read 0 0 = 10
            """);
    }

    private static void write() {
        Script.sentence("6: how many FRAMES were TAKEN (0 .. 2)", """
            new 2 3
            begin 3 = 0
            taken = 0
            # EMPTY
            write 0 0 1 = 1
            taken = 1
            # its own, in a FRAME
            write 0 0 2 = 0
            taken = 1
            fork 0 = 1
            # copied
            write 0 0 3 = 1
            taken = 2
            write 0 16 4 = 1
            taken = 3
            # FRAME 0, with what is of PROCESS 1 alone now, has gone: BROUGHT
            page 1 0 = NONE 0 1 0
            write 1 0 5 = 1
            taken = 4
            fork 0 = 2
            page 0 0 = NONE 1 2 0
            # BROUGHT and copied
            drop 0 1 = true
            drop 2 1 = true
            write 2 0 6 = 2
            taken = 6
            """);
        Script.sentence("6: WRITING: whatever the word is", """
            new 2 1
            begin 1 = 0
            write 0 0 MIN = 1
            write 0 1 MAX = 0
            write 0 2 -1 = 0
            write 0 15 0 = 0
            frame 0 {16 17 18 19 31} = MIN MAX -1 0 0
            flush = 1
            stored 0 {0 1 2 3 15} = MIN MAX -1 0 0
            """);
    }

    private static void writeThrows() {
        Script.sentence("6: Throws as read(): IndexOutOfBoundsException: no such PROCESS", """
            new 2 2
            write 0 0 1 = IndexOutOfBoundsException
            begin 1 = 0
            begin 1 = 1
            end 0 = true
            write {MIN -1 0 2 7 8 MAX} 0 1 = IndexOutOfBoundsException
            write 1 0 1 = 1
            accesses = 1
            """);
        Script.sentence("6: Throws as read(): IndexOutOfBoundsException: no such ADDRESS", """
            new 2 2
            begin 1 = 0
            begin 32 = 1
            write 0 {MIN -17 -16 -15 -1 16 17 511 512 MAX} 1 = IndexOutOfBoundsException
            write 1 {MIN -1 512 513 MAX} 1 = IndexOutOfBoundsException
            freeFrames = 2
            write 0 15 1 = 1
            write 1 511 1 = 1
            """);
        Script.sentence("6: Throws as read(): IllegalStateException: there is no room", """
            new 2 1
            """, THREE_ON_TWO, """
            # BROUGHT, and for an EMPTY PAGE
            write 0 {0 48} 1 = IllegalStateException
            fork 0 = 1
            # copied, and both
            write {0 1} {0 16 32} 1 = IllegalStateException
            accesses = 3
            end 1 = true
            write 0 {16 32} 1 = 0
            """);
    }

    private static void drop() {
        Script.sentence("7: A PAGE of this PROCESS is EMPTY from now on: true", """
            new 2 1
            """, THREE_ON_TWO, """
            # in a SECTOR, in a FRAME
            drop 0 {0 1} = true
            page 0 0 = NONE NONE 0 0
            page 0 1 = NONE NONE 0 0
            read 0 {0 16 32} = 0 0 12
            freeFrames = 1
            freeSectors = 1
            bodies = 1
            write 0 17 5 = 1
            read 0 {16 17} = 0 5
            """);
        Script.sentence("7: A PAGE of this PROCESS: what other HOLDERS have stays", """
            new 2 1
            """, THREE_ON_TWO, """
            fork 0 = 1
            drop 0 {0 1} = true
            page 0 {0 1} 2 = 0
            page 1 0 = NONE 0 1 0
            page 1 1 = 1 NONE 1 1
            frame 1 = 0 1 1
            bodies = 3
            drop 1 {0 1} = true
            bodies = 1
            freeSectors = 1
            """);
        Script.sentence("7: PAGE 0 and PAGE P - 1, P is 32; the neighbours keep theirs", """
            new 6 0
            begin 32 = 0
            begin 32 = 1
            begin 32 = 2
            write {0 1 2} {0 511} 5 = 1
            drop 1 {0 31} = true
            read 1 {0 511} = 0
            read {0 2} {0 511} = 5
            freeFrames = 2
            """);
    }

    private static void dropFalse() {
        Script.sentence("7: false if there is none such", """
            new 2 1
            drop 0 0 = false
            begin 1 = 0
            begin 32 = 1
            write 0 0 1 = 1
            write 1 511 1 = 1
            drop {MIN -1 2 7 8 MAX} 0 = false
            drop 0 {MIN -1 1 31 32 MAX} = false
            drop 1 {MIN -1 32 33 MAX} = false
            end 0 = true
            drop 0 0 = false
            bodies = 1
            """);
        Script.sentence("7: false if it is so", """
            new 2 1
            begin 2 = 0
            drop 0 {0 1} = false
            write 0 0 1 = 1
            fork 0 = 1
            drop 0 1 = false
            drop 0 0 = true
            drop 0 0 = false
            drop 1 0 = true
            drop 1 0 = false
            """);
    }

    private static void flush() {
        Script.sentence("8: All DIRTY BODIES are STORED, by FRAMES from 0 on", """
            new 4 6
            begin 4 = 0
            write 0 48 3 = 1
            write 0 32 2 = 1
            flush = 2
            drop 0 3 = true
            write 0 16 1 = 1
            write 0 0 10 = 1
            write 0 48 13 = 1
            # FRAMES 0, 1, 2, 3 with PAGES 1, 2, 0, 3; SECTOR 1 is PAGE 2's
            page 0 {1 2 0 3} 0 = 0 1 2 3
            flush = 3
            page 0 {1 2 0 3} 1 = 0 1 2 3
            stored {0..4} 0 = 1 2 10 13 0
            """);
        Script.sentence("8: by FRAMES from 0 on, wherever the HAND is", """
            new 2 3
            """, THREE_ON_TWO, """
            hand = 1
            flush = 2
            page 0 {2 1} 0 = 0 1
            page 0 {2 1} 1 = 1 2
            """);
        Script.sentence("8: and stay there, not DIRTY; what is USED and the HAND stay", """
            new 2 3
            """, THREE_ON_TWO, """
            flush = 2
            page 0 1 = 1 2 1 0
            page 0 2 = 0 1 1 0
            frame 0 = 1 0 2
            frame 1 = 0 0 1
            hand = 1
            dirty = 0
            freeFrames = 0
            freeSectors = 0
            read 0 {16 32} = 11 12
            taken = 3
            brought = 0
            """);
        Script.sentence("8: how many: those that are DIRTY, with a SECTOR or without", """
            new 3 3
            flush = 0
            begin 3 = 0
            flush = 0
            write 0 0 1 = 1
            flush = 1
            flush = 0
            write 0 16 2 = 1
            flush = 1
            write 0 0 3 = 0
            write 0 32 4 = 1
            stored {0 1 2} 0 = 1 2 0
            flush = 2
            stored {0 1 2} 0 = 3 2 4
            storings = 4
            flush = 0
            storings = 4
            """);
        Script.sentence("8: a BODY with several HOLDERS is STORED once", """
            new 2 1
            begin 1 = 0
            write 0 0 1 = 1
            fork 0 = 1
            fork 0 = 2
            flush = 1
            page {0..2} 0 {0 1 2} = 0 0 3 0 0 3 0 0 3
            storings = 1
            """);
        Script.sentence("8: what lies in a SECTOR alone is left alone", """
            new 2 4
            """, THREE_ON_TWO, """
            flush = 2
            write 0 32 99 = 0
            flush = 1
            stored {0..3} 0 = 10 99 11 0
            page 0 0 = NONE 0 1 0
            """);
    }

    private static void flushNone() {
        Script.sentence("8: as many without a SECTOR as FREE ones: STORED", """
            new 2 3
            """, THREE_ON_TWO, """
            freeSectors = 2
            flush = 2
            freeSectors = 0
            """);
        Script.sentence("8: NONE: there are more without a SECTOR than FREE ones", """
            new 2 2
            """, THREE_ON_TWO, """
            freeSectors = 1
            flush = NONE
            dirty = 2
            stored {0 1} 0 = 10 0
            drop 0 2 = true
            flush = 1
            page 0 1 = 1 1 1 0
            """);
        Script.sentence("8: NONE: those with a SECTOR are not STORED then either", """
            new 3 2
            begin 3 = 0
            write 0 0 1 = 1
            flush = 1
            write 0 0 4 = 0
            write 0 16 2 = 1
            write 0 32 3 = 1
            flush = NONE
            stored {0 1} 0 = 1 0
            page 0 0 = 0 0 1 1
            storings = 1
            """);
        Script.sentence("8: no SECTOR is FREE, and all have theirs: STORED", """
            new 2 2
            begin 2 = 0
            write 0 0 1 = 1
            write 0 16 2 = 1
            flush = 2
            write 0 0 3 = 0
            write 0 16 4 = 0
            freeSectors = 0
            flush = 2
            stored {0 1} 0 = 3 4
            """);
        Script.sentence("8: there are no SECTORS", """
            new 2 0
            flush = 0
            begin 1 = 0
            write 0 0 1 = 1
            flush = NONE
            drop 0 0 = true
            flush = 0
            """);
    }

    private static void page() {
        Script.sentence("9: what 0: its FRAME, 1: its SECTOR (NONE without)", """
            new 2 4
            """, THREE_ON_TWO, """
            page 0 {0..3} 0 = NONE 1 0 NONE
            page 0 {0..3} 1 = 0 NONE NONE NONE
            flush = 2
            page 0 {0..3} 0 = NONE 1 0 NONE
            page 0 {0..3} 1 = 0 2 1 NONE
            read 0 0 = 10
            page 0 {0..3} 0 = 1 NONE 0 NONE
            page 0 {0..3} 1 = 0 2 1 NONE
            """);
        Script.sentence("9: what 2: HOLDERS of its BODY (0: it is EMPTY)", """
            new 2 4
            """, THREE_ON_TWO, """
            page 0 {0..3} 2 = 1 1 1 0
            fork 0 = 1
            fork 0 = 2
            page {0..2} 0 2 = 3
            page {0..2} 3 2 = 0
            drop 1 0 = true
            page {0..2} 0 2 = 2 0 2
            """);
        Script.sentence("9: what 3: 1 if that is DIRTY, else 0", """
            new 2 4
            """, THREE_ON_TWO, """
            page 0 {0..3} 3 = 0 1 1 0
            flush = 2
            page 0 {0..3} 3 = 0
            fork 0 = 1
            drop 1 1 = true
            write 0 17 1 = 0
            page 0 {0..3} 3 = 0 1 0 0
            page 1 {0..3} 3 = 0
            """);
    }

    private static void pageNone() {
        Script.sentence("9: NONE if there is no such PROCESS", """
            new 2 1
            page {MIN -1..8 MAX} 0 = NONE
            """, THREE_ON_TWO, """
            page {MIN -1 1 7 8 MAX} {0 1 2 3} = NONE
            """);
        Script.sentence("9: NONE if there is no such PAGE", """
            new 2 1
            """, THREE_ON_TWO, """
            page 0 {MIN -1 4 31 32 MAX} = NONE
            begin 32 = 1
            page 1 {MIN -1 32 33 MAX} = NONE
            """);
        Script.sentence("9: NONE if there is no such what", """
            new 2 1
            """, THREE_ON_TWO, """
            page 0 {0..3} {MIN -1 4 5 16 MAX} = NONE
            """);
    }

    private static void frame() {
        Script.sentence("10: what 0: 1 if it is USED, else 0 (0 when it is FREE, too)", """
            new 3 1
            frame {0..2} 0 = 0
            begin 4 = 0
            write 0 0 1 = 1
            frame {0..2} 0 = 1 0 0
            write 0 16 1 = 1
            write 0 32 1 = 1
            frame {0..2} 0 = 1
            write 0 48 1 = 1
            frame {0..2} 0 = 1 0 0
            read 0 32 = 1
            frame {0..2} 0 = 1 0 1
            drop 0 2 = true
            frame {0..2} 0 = 1 0 0
            """);
        Script.sentence("10: what 1: the least PROCESS that holds its BODY (NONE when FREE)", """
            new 2 1
            begin 1 = 0
            begin 2 = 1
            write 1 16 5 = 1
            frame {0 1} 1 = 1 NONE
            fork 1 = 2
            frame 0 1 = 1
            end 0 = true
            frame 0 1 = 1
            fork 2 = 0
            frame 0 1 = 0
            drop 0 1 = true
            frame 0 1 = 1
            end 1 = true
            frame 0 1 = 2
            end 2 = true
            frame 0 1 = NONE
            begin 1 = 1
            """, Script.each(2, 7, "begin 1 = %d"), """
            write 7 0 1 = 1
            frame 0 1 = 7
            """);
        Script.sentence("10: what 2: the number of its PAGES (NONE when FREE)", """
            new 4 0
            begin 1 = 0
            begin 32 = 1
            frame {0..3} 2 = NONE
            write 1 511 5 = 1
            write 1 32 5 = 1
            write 1 0 5 = 1
            frame {0..3} 2 = 31 2 0 NONE
            fork 1 = 2
            frame {0..3} 2 = 31 2 0 NONE
            write 2 511 6 = 1
            frame {0..3} 2 = 31 2 0 31
            drop 1 31 = true
            frame {0..3} 2 = NONE 2 0 31
            """);
        Script.sentence("10: 16 .. 31: its words 0 .. 15 as they are", """
            new 2 1
            begin 2 = 0
            """, "write 0 0 100 = 1", Script.each(1, 9, "write 0 %d 10%d = 0"),
            Script.each(10, 15, "write 0 %d 1%d = 0"), """
            frame 0 {16..31} = 100 101 102 103 104 105 106 107 108 109 110 111 112 113 114 115
            frame 1 {16..31} = 0
            flush = 1
            write 0 0 99 = 0
            frame 0 {16 17 31} = 99 101 115
            """);
        Script.sentence("10: of a FREE one what was there last", """
            new 2 1
            begin 2 = 0
            write 0 0 7 = 1
            write 0 15 8 = 0
            drop 0 0 = true
            frame 0 {16 17 31} = 7 0 8
            frame 0 = 0 NONE NONE
            write 0 16 9 = 1
            frame 0 {16 17 31} = 9 0 0
            end 0 = true
            frame 0 {16 17 31} = 9 0 0
            """);
    }

    private static void frameNone() {
        Script.sentence("10: NONE for another FRAME", """
            new 2 1
            """, THREE_ON_TWO, """
            frame {MIN -16 -1 2 3 15 16 MAX} {0 1 2 16 31} = NONE
            """);
        Script.sentence("10: NONE for another what", """
            new 2 1
            frame 0 {MIN -1 3 4 14 15 32 33 MAX} = NONE
            """, THREE_ON_TWO, """
            frame {0 1} {MIN -1 3 4 14 15 32 33 MAX} = NONE
            """);
    }

    private static void stored() {
        Script.sentence("11: Word i (0 .. 15) of a SECTOR, as it was STORED last", """
            new 2 2
            begin 2 = 0
            """, "write 0 0 100 = 1", Script.each(1, 9, "write 0 %d 10%d = 0"),
            Script.each(10, 15, "write 0 %d 1%d = 0"), """
            stored 0 {0..15} = 0
            flush = 1
            stored 0 {0..15} = 100 101 102 103 104 105 106 107 108 109 110 111 112 113 114 115
            stored 1 {0..15} = 0
            write 0 0 99 = 0
            stored 0 {0 1 15} = 100 101 115
            flush = 1
            stored 0 {0 1 15} = 99 101 115
            """);
        Script.sentence("11: as it was STORED last, when it is FREE, too, and until another is STORED there", """
            new 2 2
            begin 2 = 0
            write 0 0 7 = 1
            write 0 15 8 = 0
            flush = 1
            drop 0 0 = true
            freeSectors = 2
            stored 0 {0 1 15} = 7 0 8
            write 0 17 9 = 1
            stored 0 {0 1 15} = 7 0 8
            flush = 1
            stored 0 {0 1 15} = 0 9 0
            end 0 = true
            stored 0 {0 1 15} = 0 9 0
            """);
        Script.sentence("11: IndexOutOfBoundsException: there is none", """
            new 2 2
            stored {0 1} {0 15} = 0
            stored {MIN -2 -1 2 3 63 64 MAX} {0 15} = IndexOutOfBoundsException
            stored {0 1} {MIN -16 -1 16 17 MAX} = IndexOutOfBoundsException
            stored {-1 2} {-1 16} = IndexOutOfBoundsException
            new 2 0
            stored {-1 0} {0 15} = IndexOutOfBoundsException
            new 2 64
            stored 63 15 = 0
            stored {-1 64} 0 = IndexOutOfBoundsException
            stored 63 16 = IndexOutOfBoundsException
            stored 1 -1 = IndexOutOfBoundsException
            """);
    }

    private static void lookStates() {
        Script.sentence("12: what 0 PROCESSES, from none to eight", """
            new 2 0
            processes = 0
            """, Script.each(0, 7, "begin 1 = %d"), """
            processes = 8
            begin 1 = NONE
            processes = 8
            end {0..6} = true
            processes = 1
            fork 7 = 0
            processes = 2
            end {0 7} = true
            processes = 0
            """);
        Script.sentence("12: what 1 FREE FRAMES, 2 FREE SECTORS, from all to none", """
            new 2 2
            begin 4 = 0
            look {1 2} = 2 2
            write 0 0 1 = 1
            look {1 2} = 1 2
            write 0 16 1 = 1
            look {1 2} = 0 2
            write 0 32 1 = 1
            look {1 2} = 0 1
            write 0 48 1 = 1
            look {1 2} = 0 0
            drop 0 3 = true
            look {1 2} = 1 0
            drop 0 0 = true
            look {1 2} = 1 1
            end 0 = true
            look {1 2} = 2 2
            """);
        Script.sentence("12: what 4 BODIES, 5 DIRTY ones: each once, wherever it lies", """
            new 2 4
            """, THREE_ON_TWO, """
            look {4 5} = 3 2
            fork 0 = 1
            look {4 5} = 3 2
            flush = 2
            look {4 5} = 3 0
            read 1 0 = 10
            look {4 5} = 3 0
            write 1 0 5 = 1
            look {4 5} = 4 1
            end 0 = true
            look {4 5} = 3 1
            end 1 = true
            look {4 5} = 0 0
            """);
        Script.sentence("12: NONE for another what", """
            new 2 1
            look {MIN -2 -1 11 12 16 MAX} = NONE
            """, THREE_ON_TWO, """
            look {MIN -2 -1 11 12 16 MAX} = NONE
            """);
    }

    private static void lookCounts() {
        Script.sentence("12: what 6 READINGS and WRITINGS (that did not throw)", """
            new 2 1
            accesses = 0
            begin 3 = 0
            read 0 0 = 0
            accesses = 1
            write 0 0 1 = 1
            accesses = 2
            write 0 16 1 = 1
            write 0 32 1 = 1
            accesses = 4
            read 0 0 = IllegalStateException
            write 0 0 1 = IllegalStateException
            read 0 48 = IndexOutOfBoundsException
            write 1 0 1 = IndexOutOfBoundsException
            accesses = 4
            flush = NONE
            drop 0 0 = true
            flush = NONE
            fork 0 = 1
            end 1 = true
            accesses = 4
            read 0 32 = 1
            accesses = 5
            """);
        Script.sentence("12: what 7 FRAMES TAKEN, FREE ones and others", """
            new 2 2
            begin 3 = 0
            write 0 0 1 = 1
            write 0 16 2 = 1
            taken = 2
            write 0 32 3 = 1
            taken = 3
            read 0 0 = 1
            taken = 4
            read 0 0 = 1
            write 0 0 2 = 0
            taken = 4
            read 0 16 = IllegalStateException
            taken = 4
            end 0 = true
            taken = 4
            """);
        Script.sentence("12: what 8 BODIES BROUGHT, by read() and by write()", """
            new 2 3
            """, THREE_ON_TWO, """
            brought = 0
            read 0 0 = 10
            brought = 1
            write 0 16 1 = 1
            brought = 2
            write 0 16 2 = 0
            read 0 0 = 10
            brought = 2
            """);
        Script.sentence("12: what 9 STORED (by flush(), too)", """
            new 2 4
            begin 3 = 0
            storings = 0
            write 0 0 1 = 1
            write 0 16 1 = 1
            storings = 0
            write 0 32 1 = 1
            storings = 1
            flush = 2
            storings = 3
            # FRAME 1 goes, not DIRTY
            read 0 0 = 1
            storings = 3
            write 0 0 2 = 0
            flush = 1
            storings = 4
            """);
        Script.sentence("12: what 10 copied", """
            new 4 1
            begin 2 = 0
            write 0 0 1 = 1
            fork 0 = 1
            fork 0 = 2
            copies = 0
            read 1 0 = 1
            write 1 16 1 = 1
            copies = 0
            write 1 0 2 = 1
            copies = 1
            write 1 0 3 = 0
            copies = 1
            write 0 0 4 = 1
            copies = 2
            write 2 0 5 = 0
            copies = 2
            """);
    }
}
