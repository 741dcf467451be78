/** A test for each sentence of "Terms", at the boundary that it names. Script tells how they are written. */
public final class TermsTest {
    /** Three pages on two frames: page 0, that both processes hold, is in sector 0 alone; the hand is at 1. */
    private static final String SHARED_AND_GONE = """
        begin 3 = 0
        write 0 0 1 = 1
        fork 0 = 1
        write 0 16 2 = 1
        write 0 32 3 = 1
        page 0 0 = NONE 0 2 0
        frame 0 = 1 0 2
        frame 1 = 0 0 1
        hand = 1
        """;

    /** Four pages on three frames: page 0 is in sector 0 alone, frame 0 with page 3 is USED, the hand is at 1. */
    private static final String FOUR_ON_THREE = """
        begin 4 = 0
        write 0 0 10 = 1
        write 0 16 11 = 1
        write 0 32 12 = 1
        hand = 0
        write 0 48 13 = 1
        page 0 0 = NONE 0 1 0
        frame 0 = 1 0 3
        frame 1 = 0 0 1
        frame 2 = 0 0 2
        hand = 1
        """;

    private TermsTest() {
    }

    public static void main(String[] args) {
        Watchdog.start();
        calls();
        rows();
        words();
        processesAndPages();
        bodies();
        dirty();
        bodiesNoMore();
        takingWhatIsFree();
        takingBySecondChance();
        handGoesRound();
        kept();
        storing();
        bringing();
        reading();
        writing();
        writingShared();
        roomForOne();
        roomForTwo();
        refusedCallsChangeNothing();
        firstException();
        Script.finish();
    }

    private static void calls() {
        Script.sentence("An object is used for at most 512 calls", """
            new 2 1
            begin 3 = 0
            write 0 0 0 = 1
            write 0 16 1 = 1
            """, Script.each(1, 254, "write 0 0 %d = 0\nread 0 0 = %d"), """
            accesses = 510
            """);
    }

    private static void rows() {
        Script.sentence("FRAMES 0 .. F - 1", """
            new 2 0
            frame {0 1} 0 = 0
            frame {-1 2 16 MIN MAX} {0 1 2 16 31} = NONE
            new 16 0
            frame {0 15} 0 = 0
            frame {-1 16 17} {0 1 2 16 31} = NONE
            begin 16 = 0
            """, Script.each(0, 15, "write 0 %a %d = 1"), Script.each(0, 15, "page 0 %d = %d NONE 1 1"), """
            freeFrames = 0
            frame 15 = 1 0 15
            frame 15 16 = 15
            """);
        Script.sentence("SECTORS 0 .. S - 1", """
            new 2 0
            stored {-1 0 1} 0 = IndexOutOfBoundsException
            new 2 3
            stored {0 2} {0 15} = 0
            stored {-1 3 64 MIN MAX} {0 15} = IndexOutOfBoundsException
            begin 5 = 0
            """, Script.each(0, 4, "write 0 %a 1%d = 1"), """
            freeSectors = 0
            page 0 {0..2} 1 = 0 1 2
            stored {0..2} 0 = 10 11 12
            read 0 0 = IllegalStateException
            """);
        Script.sentence("FRAMES 0 .. F - 1 and SECTORS 0 .. S - 1: as many as there may be, and all of use", """
            new 16 64
            begin 32 = 0
            begin 32 = 1
            begin 17 = 2
            """, Script.each(0, 31, "write 0 %a 1%d = 1"), Script.each(0, 31, "write 1 %a 2%d = 1"),
            Script.each(0, 14, "write 2 %a 3%d = 1"), """
            freeSectors = 1
            stored 63 0 = 0
            write 2 255 315 = 1
            freeSectors = 0
            bodies = 80
            dirty = 16
            hand = 0
            page 1 31 = NONE 63 1 0
            stored {0 31 32 62 63} 0 = 10 131 20 230 231
            frame 15 = 1 2 15
            frame 15 {16 31} = 0 315
            write 2 256 316 = IllegalStateException
            """);
    }

    private static void words() {
        Script.sentence("FRAMES and SECTORS have 16 words each, a PAGE too", """
            new 2 2
            begin 2 = 0
            write 0 0 1 = 1
            write 0 15 2 = 0
            write 0 16 3 = 1
            write 0 31 4 = 0
            frame 0 {16..31} = 1 0 0 0 0 0 0 0 0 0 0 0 0 0 0 2
            frame 1 {16..31} = 3 0 0 0 0 0 0 0 0 0 0 0 0 0 0 4
            flush = 2
            stored 0 {0..15} = 1 0 0 0 0 0 0 0 0 0 0 0 0 0 0 2
            stored 1 {0..15} = 3 0 0 0 0 0 0 0 0 0 0 0 0 0 0 4
            stored {0 1} {-1 16} = IndexOutOfBoundsException
            frame {0 1} {15 32} = NONE
            read 0 {0..31} = 1 0 0 0 0 0 0 0 0 0 0 0 0 0 0 2 3 0 0 0 0 0 0 0 0 0 0 0 0 0 0 4
            """);
        Script.sentence("ADDRESS a is word a % 16 of PAGE a / 16", """
            new 3 0
            begin 3 = 0
            write 0 0 100 = 1
            write 0 15 115 = 0
            write 0 16 116 = 1
            write 0 31 131 = 0
            write 0 47 147 = 1
            frame 0 {16 17 31} = 100 0 115
            frame 1 {16 30 31} = 116 0 131
            frame 2 {16 31} = 0 147
            read 0 {0 1 15 16 31 32 47} = 100 0 115 116 131 0 147
            read 0 {-1 -16 48 MIN MAX} = IndexOutOfBoundsException
            write 0 {-1 -16 48 MIN MAX} 9 = IndexOutOfBoundsException
            """);
    }

    private static void processesAndPages() {
        Script.sentence("A PROCESS (0 .. 7)", """
            new 2 0
            """, Script.each(0, 7, "begin 1 = %d"), """
            write 7 0 5 = 1
            read 7 0 = 5
            frame 0 = 1 7 0
            page 7 0 = 0 NONE 1 1
            read {-1 8 MIN MAX} 0 = IndexOutOfBoundsException
            write {-1 8 MIN MAX} 0 1 = IndexOutOfBoundsException
            page {-1 8 MIN MAX} 0 = NONE
            drop {-1 8 MIN MAX} 0 = false
            end {-1 8 MIN MAX} = false
            fork {-1 8 MIN MAX} = NONE
            end 7 = true
            read 7 0 = IndexOutOfBoundsException
            fork {-1 7 8 MIN MAX} = NONE
            """);
        Script.sentence("has PAGES 0 .. P - 1", """
            new 3 0
            begin 1 = 0
            begin 32 = 1
            write 0 15 1 = 1
            write 0 16 1 = IndexOutOfBoundsException
            page 0 0 = 0 NONE 1 1
            page 0 {-1 1 31 32} = NONE
            write 1 0 2 = 1
            write 1 511 3 = 1
            write 1 512 4 = IndexOutOfBoundsException
            page 1 0 = 1 NONE 1 1
            page 1 31 = 2 NONE 1 1
            page 1 {-1 32 33} = NONE
            # PAGE 0 of the next PROCESS is no PAGE 32 of this one, nor the other way round
            drop 0 {-1 1 32 63} = false
            drop 1 {-32 -1 32} = false
            read 0 512 = IndexOutOfBoundsException
            read 1 {-1 -512} = IndexOutOfBoundsException
            """);
    }

    private static void bodies() {
        Script.sentence("A PAGE is EMPTY: all its words are 0", """
            new 2 0
            begin 2 = 0
            page 0 {0 1} = NONE NONE 0 0 NONE NONE 0 0
            read 0 {0 15 16 31} = 0
            write 0 3 9 = 1
            write 0 15 8 = 0
            read 0 {0 3 15} = 0 9 8
            drop 0 0 = true
            page 0 0 = NONE NONE 0 0
            read 0 {0 3 15} = 0
            """);
        Script.sentence("HOLDERS (one or more): the PAGES of one PROCESS or of several, always with one number", """
            new 3 0
            begin 2 = 0
            write 0 16 7 = 1
            page 0 1 2 = 1
            """, Script.each(1, 7, "fork 0 = %d"), """
            page {0..7} 1 2 = 8
            page {0..7} 0 2 = 0
            frame 0 = 1 0 1
            bodies = 1
            write 0 16 8 = 1
            page 0 1 = 1 NONE 1 1
            page {1..7} 1 2 = 7
            frame 0 = 1 1 1
            end 1 = true
            drop 7 1 = true
            page {2..6} 1 2 = 5
            frame 0 = 1 2 1
            end {2 3} = true
            drop {4 5} 1 = true
            page 6 1 = 0 NONE 1 1
            # the last HOLDER has no others
            write 6 17 9 = 0
            frame 0 = 1 6 1
            """);
        Script.sentence("It lies in both: its words are those of the FRAME", """
            new 3 2
            begin 1 = 0
            write 0 0 5 = 1
            flush = 1
            page 0 0 = 0 0 1 0
            write 0 0 6 = 0
            page 0 0 = 0 0 1 1
            read 0 0 = 6
            frame 0 16 = 6
            stored 0 0 = 5
            fork 0 = 1
            write 1 1 8 = 1
            read 1 0 = 6
            read 0 0 = 6
            stored 0 0 = 5
            """);
    }

    private static void dirty() {
        Script.sentence("DIRTY if it has been written to since it came to its FRAME", """
            new 2 3
            begin 3 = 0
            write 0 0 10 = 1
            write 0 16 11 = 1
            write 0 32 12 = 1
            page 0 0 = NONE 0 1 0
            dirty = 2
            read 0 0 = 10
            read 0 15 = 0
            page 0 0 = 1 0 1 0
            dirty = 1
            # the same word again: written to all the same
            write 0 0 10 = 0
            page 0 0 = 1 0 1 1
            dirty = 2
            """);
        Script.sentence("DIRTY if it has been written to since it was STORED there last", """
            new 2 2
            begin 2 = 0
            write 0 0 10 = 1
            write 0 16 11 = 1
            dirty = 2
            flush = 2
            page 0 0 = 0 0 1 0
            page 0 1 = 1 1 1 0
            read 0 0 = 10
            dirty = 0
            write 0 1 0 = 0
            page 0 0 = 0 0 1 1
            page 0 1 = 1 1 1 0
            dirty = 1
            flush = 1
            page 0 0 = 0 0 1 0
            dirty = 0
            """);
        Script.sentence("What lies in a FRAME alone is DIRTY", """
            new 3 2
            begin 1 = 0
            write 0 0 0 = 1
            page 0 0 = 0 NONE 1 1
            flush = 1
            page 0 0 = 0 0 1 0
            fork 0 = 1
            write 1 0 0 = 1
            page 1 0 = 1 NONE 1 1
            page 0 0 = 0 0 1 0
            dirty = 1
            flush = 1
            page 1 0 = 1 1 1 0
            """);
    }

    private static void bodiesNoMore() {
        Script.sentence("A BODY without HOLDERS is no more: its FRAME is FREE", """
            new 2 0
            begin 2 = 0
            write 0 0 1 = 1
            write 0 16 2 = 1
            drop 0 0 = true
            freeFrames = 1
            bodies = 1
            dirty = 1
            frame 0 = 0 NONE NONE
            frame 0 16 = 1
            end 0 = true
            freeFrames = 2
            bodies = 0
            dirty = 0
            frame 1 = 0 NONE NONE
            frame 1 16 = 2
            """);
        Script.sentence("A BODY without HOLDERS is no more: its SECTOR is FREE", """
            new 2 3
            begin 4 = 0
            """, Script.each(0, 3, "write 0 %a 1%d = 1"), """
            page 0 {0 1} {0 1} = NONE 0 NONE 1
            freeSectors = 1
            drop 0 0 = true
            freeSectors = 2
            freeFrames = 0
            bodies = 3
            stored 0 0 = 10
            end 0 = true
            freeSectors = 3
            freeFrames = 2
            bodies = 0
            stored 1 0 = 11
            """);
        Script.sentence("A BODY without HOLDERS is no more: its FRAME, its SECTOR are FREE", """
            new 2 2
            begin 2 = 0
            write 0 0 1 = 1
            write 0 16 2 = 1
            flush = 2
            freeSectors = 0
            drop 0 1 = true
            freeFrames = 1
            freeSectors = 1
            frame 1 = 0 NONE NONE
            bodies = 1
            end 0 = true
            freeFrames = 2
            freeSectors = 2
            bodies = 0
            """);
        Script.sentence("A BODY with HOLDERS still is there: its FRAME, its SECTOR are not FREE", """
            new 2 2
            begin 1 = 0
            write 0 0 1 = 1
            flush = 1
            fork 0 = 1
            fork 0 = 2
            drop 0 0 = true
            freeFrames = 1
            freeSectors = 1
            end 1 = true
            freeFrames = 1
            freeSectors = 1
            page 2 0 = 0 0 1 0
            frame 0 = 1 2 0
            read 2 0 = 1
            drop 2 0 = true
            freeFrames = 2
            freeSectors = 2
            """);
        Script.sentence("What is FREE again serves again", """
            new 2 1
            begin 4 = 0
            write 0 0 10 = 1
            write 0 16 11 = 1
            write 0 32 12 = 1
            write 0 48 13 = IllegalStateException
            drop 0 0 = true
            write 0 48 13 = 1
            page 0 1 = NONE 0 1 0
            page 0 3 = 1 NONE 1 1
            stored 0 0 = 11
            drop 0 3 = true
            read 0 16 = 11
            page 0 1 = 1 0 1 0
            """);
    }

    private static void takingWhatIsFree() {
        Script.sentence("To TAKE a FRAME (it is not USED at first), one that was USED when it became FREE", """
            new 2 4
            """, SHARED_AND_GONE, """
            read 0 16 = 2
            frame 1 = 1 0 1
            drop 0 1 = true
            frame 1 = 0 NONE NONE
            # the BODY comes to FRAME 1, and FRAME 0 is taken for the copy: that one alone is USED
            write 1 0 4 = 2
            frame 1 = 0 0 0
            frame 0 = 1 1 0
            page 0 2 = NONE 1 1 0
            hand = 1
            """);
        Script.sentence("To TAKE a FRAME (it is not USED at first), one that the HAND comes to", """
            new 2 4
            """, SHARED_AND_GONE, """
            write 1 0 4 = 2
            frame 1 = 0 0 0
            frame 0 = 1 1 0
            page 0 0 = 1 0 1 0
            page 1 0 = 0 NONE 1 1
            hand = 1
            """);
        Script.sentence("the least FREE one, if there is one", """
            new 4 0
            begin 4 = 0
            """, Script.each(0, 3, "write 0 %a 1%d = 1"), """
            drop 0 {2 0 3} = true
            write 0 32 22 = 1
            page 0 2 0 = 0
            write 0 0 20 = 1
            page 0 0 0 = 2
            write 0 48 23 = 1
            page 0 3 0 = 3
            """);
        Script.sentence("the least FREE one: the HAND stays, and what is USED", """
            new 3 4
            """, FOUR_ON_THREE, """
            # FRAME 0, and FRAME 1, that the HAND is at
            drop 0 {1 3} = true
            read 0 0 = 10
            page 0 0 = 0 0 1 0
            frame 2 = 0 0 2
            hand = 1
            read 0 32 = 12
            write 0 16 5 = 1
            page 0 1 = 1 NONE 1 1
            frame {0..2} 0 = 1
            hand = 1
            storings = 1
            """);
    }

    private static void takingBySecondChance() {
        Script.sentence("the HAND (0 at first) goes round", """
            new 3 1
            hand = 0
            """, FOUR_ON_THREE);
        Script.sentence("one that is USED is passed, and not USED then", """
            new 3 4
            """, FOUR_ON_THREE, """
            read 0 16 = 11
            frame 1 = 1 0 1
            read 0 0 = 10
            frame 1 = 0 0 1
            frame 2 = 1 0 0
            page 0 1 = 1 NONE 1 1
            page 0 2 = NONE 1 1 0
            hand = 0
            """);
        Script.sentence("the first other one is taken: those behind it stay USED", """
            new 3 4
            """, FOUR_ON_THREE, """
            read 0 32 = 12
            read 0 0 = 10
            page 0 1 = NONE 1 1 0
            frame 0 = 1 0 3
            frame 1 = 1 0 0
            frame 2 = 1 0 2
            hand = 2
            """);
        Script.sentence("all are USED: the HAND comes to the first one again", """
            new 3 4
            """, FOUR_ON_THREE, """
            read 0 16 = 11
            read 0 32 = 12
            frame {0..2} 0 = 1
            read 0 0 = 10
            frame 0 = 0 0 3
            frame 1 = 1 0 0
            frame 2 = 0 0 2
            page 0 1 = NONE 1 1 0
            hand = 2
            """);
    }

    private static void handGoesRound() {
        Script.sentence("the HAND is the one behind it (behind F - 1 comes 0), F is 2", """
            new 2 4
            begin 5 = 0
            write 0 0 1 = 1
            write 0 16 2 = 1
            hand = 0
            write 0 32 3 = 1
            hand = 1
            write 0 48 4 = 1
            hand = 0
            write 0 64 5 = 1
            hand = 1
            page 0 {2..4} 0 = NONE 1 0
            """);
        Script.sentence("the HAND is the one behind it (behind F - 1 comes 0), F is 16", """
            new 16 16
            begin 32 = 0
            """, Script.each(0, 30, "write 0 %a %d = 1"), """
            hand = 15
            page 0 30 0 = 14
            write 0 496 31 = 1
            hand = 0
            page 0 31 0 = 15
            """);
        Script.sentence("FRAME F - 1 is USED and passed: behind it comes 0", """
            new 3 6
            """, FOUR_ON_THREE, """
            read 0 0 = 10
            hand = 2
            read 0 16 = 11
            page 0 1 0 = 2
            hand = 0
            read 0 32 = 12
            page 0 2 0 = 0
            hand = 1
            fork 0 = 1
            write 1 0 9 = 1
            page 1 0 0 = 2
            hand = 0
            read 0 48 = 13
            page 0 3 0 = 1
            hand = 2
            frame {0..2} 0 = 0 1 1
            read 0 16 = 11
            page 0 1 0 = 0
            frame {0..2} 0 = 1 1 0
            hand = 1
            """);
    }

    private static void kept() {
        Script.sentence("a FRAME that is KEPT is passed, one that is not USED", """
            new 3 4
            """, FOUR_ON_THREE, """
            fork 0 = 1
            write 1 16 9 = 1
            page 1 1 = 2 NONE 1 1
            page 0 1 = 1 NONE 1 1
            page 0 2 = NONE 1 2 0
            frame 0 = 1 0 3
            frame 1 = 0 0 1
            frame 2 = 1 1 1
            hand = 0
            """);
        Script.sentence("a FRAME that is KEPT is passed, one that is USED: it stays so, for all rounds", """
            new 2 2
            begin 2 = 0
            write 0 0 1 = 1
            write 0 16 2 = 1
            fork 0 = 1
            write 1 0 3 = 1
            frame 0 = 1 0 0
            frame 1 = 1 1 0
            page 0 1 = NONE 0 2 0
            hand = 0
            """);
        Script.sentence("FRAME F - 1 is KEPT and passed: behind it comes 0", """
            new 3 4
            """, FOUR_ON_THREE, """
            read 0 0 = 10
            hand = 2
            fork 0 = 1
            # passed: 2 KEPT, 0 and 1 USED, 2 KEPT
            write 1 32 9 = 1
            page 1 2 = 0 NONE 1 1
            page 0 2 = 2 NONE 1 1
            page 0 3 = NONE 2 2 0
            frame {0..2} 0 = 1 0 0
            hand = 1
            """);
        Script.sentence("KEPT meanwhile, and no longer", """
            new 3 4
            """, FOUR_ON_THREE, """
            fork 0 = 1
            write 1 16 9 = 1
            frame {0..2} 0 = 1 0 1
            hand = 0
            read 0 0 = 10
            page 0 0 = 1 0 2 0
            page 0 1 = NONE 2 1 0
            hand = 2
            """);
    }

    private static void storing() {
        Script.sentence("The BODY there, if it is DIRTY, is STORED; it lies there alone then", """
            new 2 3
            begin 3 = 0
            write 0 0 1 = 1
            write 0 15 7 = 0
            write 0 16 2 = 1
            stored 0 {0 15} = 0
            write 0 32 3 = 1
            stored 0 {0..15} = 1 0 0 0 0 0 0 0 0 0 0 0 0 0 0 7
            page 0 0 = NONE 0 1 0
            storings = 1
            freeSectors = 2
            bodies = 3
            dirty = 2
            """);
        Script.sentence("The BODY there, if it is not DIRTY, is not STORED; it lies in its SECTOR alone then", """
            new 2 3
            begin 3 = 0
            write 0 0 1 = 1
            write 0 16 2 = 1
            flush = 2
            storings = 2
            write 0 32 3 = 1
            page 0 0 = NONE 0 1 0
            storings = 2
            freeSectors = 1
            read 0 0 = 1
            page 0 1 = NONE 1 1 0
            storings = 2
            """);
        Script.sentence("STORED: in its SECTOR, else in the least FREE one", """
            new 2 3
            begin 4 = 0
            write 0 0 10 = 1
            write 0 16 11 = 1
            flush = 2
            drop 0 0 = true
            write 0 16 21 = 0
            write 0 32 12 = 1
            # SECTORS 0 and 2 are FREE
            write 0 48 13 = 1
            page 0 2 = NONE 0 1 0
            stored {0..2} 0 = 12 11 0
            drop 0 2 = true
            drop 0 3 = true
            write 0 32 14 = 1
            write 0 0 15 = 1
            page 0 1 = NONE 1 1 0
            stored {0..2} 0 = 12 21 0
            freeSectors = 2
            """);
    }

    private static void bringing() {
        Script.sentence("To BRING a BODY: a FRAME is TAKEN, and it lies there, too, not DIRTY", """
            new 2 3
            begin 3 = 0
            write 0 0 10 = 1
            write 0 15 19 = 0
            write 0 21 11 = 1
            write 0 32 12 = 1
            page 0 0 = NONE 0 1 0
            brought = 0
            taken = 3
            read 0 15 = 19
            brought = 1
            taken = 4
            page 0 0 = 1 0 1 0
            page 0 1 = NONE 1 1 0
            frame 1 {16..31} = 10 0 0 0 0 0 0 0 0 0 0 0 0 0 0 19
            stored 0 {0 15} = 10 19
            freeSectors = 1
            bodies = 3
            dirty = 1
            """);
    }

    private static void reading() {
        Script.sentence("READING: an EMPTY PAGE gives 0, and no more is done", """
            new 2 0
            begin 3 = 0
            read 0 {0 15} = 0
            freeFrames = 2
            bodies = 0
            taken = 0
            page 0 0 = NONE NONE 0 0
            write 0 0 1 = 1
            write 0 16 2 = 1
            # no FRAME and no SECTOR is FREE, and none is needed
            read 0 {32 47} = 0
            page 0 2 = NONE NONE 0 0
            taken = 2
            brought = 0
            hand = 0
            """);
        Script.sentence("READING: its BODY lies in a FRAME: that is USED, and no more is done", """
            new 3 4
            """, FOUR_ON_THREE, """
            frame 1 0 = 0
            read 0 16 = 11
            frame {0..2} 0 = 1 1 0
            page 0 1 = 1 NONE 1 1
            brought = 0
            taken = 4
            hand = 1
            """);
        Script.sentence("READING: its BODY, if it lies in no FRAME, is BROUGHT; its FRAME is USED", """
            new 3 4
            """, FOUR_ON_THREE, """
            read 0 0 = 10
            page 0 0 = 1 0 1 0
            frame 1 = 1 0 0
            brought = 1
            taken = 5
            hand = 2
            read 0 1 = 0
            brought = 1
            taken = 5
            """);
        Script.sentence("READING: a BODY with other HOLDERS is not copied", """
            new 2 2
            begin 1 = 0
            write 0 0 5 = 1
            fork 0 = 1
            read {0 1} 0 = 5
            page {0 1} 0 = 0 NONE 2 1 0 NONE 2 1
            bodies = 1
            taken = 1
            copies = 0
            """);
    }

    private static void writing() {
        Script.sentence("WRITING: for an EMPTY PAGE a FRAME is TAKEN for a BODY (all words 0), a FREE one", """
            new 2 0
            begin 2 = 0
            write 0 0 1 = 1
            write 0 {1..15} 1 = 0
            drop 0 0 = true
            frame 0 {16..31} = 1
            write 0 21 2 = 1
            page 0 1 = 0 NONE 1 1
            frame 0 {16..31} = 0 0 0 0 0 2 0 0 0 0 0 0 0 0 0 0
            """);
        Script.sentence("WRITING: for an EMPTY PAGE a FRAME is TAKEN for a BODY (all words 0), one where another was", """
            new 2 1
            begin 3 = 0
            write 0 0 1 = 1
            write 0 {1..15} 1 = 0
            write 0 16 2 = 1
            write 0 47 3 = 1
            page 0 2 = 0 NONE 1 1
            frame 0 {16..31} = 0 0 0 0 0 0 0 0 0 0 0 0 0 0 0 3
            """);
        Script.sentence("WRITING: for an EMPTY PAGE a BODY of its own, another one for each PROCESS", """
            new 2 0
            begin 1 = 0
            fork 0 = 1
            write 0 0 1 = 1
            page 1 0 = NONE NONE 0 0
            read 1 0 = 0
            write 1 0 2 = 1
            page {0 1} 0 = 0 NONE 1 1 1 NONE 1 1
            read {0 1} 0 = 1 2
            copies = 0
            """);
        Script.sentence("WRITING: its BODY is BROUGHT, if it lies in no FRAME", """
            new 3 4
            """, FOUR_ON_THREE, """
            write 0 1 5 = 1
            page 0 0 = 1 0 1 1
            frame 1 = 1 0 0
            frame 1 {16..18} = 10 5 0
            stored 0 {0 1} = 10 0
            brought = 1
            copies = 0
            write 0 1 6 = 0
            brought = 1
            """);
        Script.sentence("WRITING: Then the FRAME of the PAGE's BODY is USED, the word is written, that BODY DIRTY", """
            new 3 5
            """, FOUR_ON_THREE, """
            flush = 3
            dirty = 0
            frame 1 0 = 0
            write 0 31 9 = 0
            frame {0..2} 0 = 1 1 0
            frame 1 {16 30 31} = 11 0 9
            page 0 1 = 1 2 1 1
            dirty = 1
            """);
    }

    private static void writingShared() {
        Script.sentence("WRITING: other HOLDERS: a BODY of the same words, that the PAGE is of from now on", """
            new 3 0
            begin 1 = 0
            write 0 0 1 = 1
            write 0 15 2 = 0
            fork 0 = 1
            write 1 7 3 = 1
            page {0 1} 0 = 0 NONE 1 1 1 NONE 1 1
            frame 0 {16..31} = 1 0 0 0 0 0 0 0 0 0 0 0 0 0 0 2
            frame 1 {16..31} = 1 0 0 0 0 0 0 3 0 0 0 0 0 0 0 2
            copies = 1
            bodies = 2
            write 1 0 4 = 0
            write 0 0 5 = 0
            read {0 1} 0 = 5 4
            copies = 1
            """);
        Script.sentence("WRITING: other HOLDERS, and the first PROCESS writes: its PAGE is of the copy", """
            new 2 0
            begin 1 = 0
            write 0 0 1 = 1
            fork 0 = 1
            write 0 0 2 = 1
            page {0 1} 0 = 1 NONE 1 1 0 NONE 1 1
            read {0 1} 0 = 2 1
            """);
        Script.sentence("WRITING: the FRAME of what is the PAGE's BODY now is USED, that BODY DIRTY: the other is not", """
            new 3 5
            """, FOUR_ON_THREE, """
            flush = 3
            fork 0 = 1
            write 1 16 9 = 1
            frame {0..2} 0 = 1 0 1
            page 0 1 = 1 2 1 0
            page 1 1 = 2 NONE 1 1
            dirty = 1
            """);
        Script.sentence("WRITING: a BODY that lies in no FRAME and has other HOLDERS: BROUGHT, and copied", """
            new 2 3
            """, SHARED_AND_GONE, """
            write 1 1 4 = 2
            page 0 0 = 1 0 1 0
            page 1 0 = 0 NONE 1 1
            page 0 1 = NONE 1 1 0
            page 0 2 = NONE 2 1 0
            frame 1 {16 17} = 1 0
            frame 0 {16..18} = 1 4 0
            stored {0..2} 0 = 1 2 3
            taken = 5
            brought = 1
            storings = 3
            copies = 1
            """);
    }

    private static void roomForOne() {
        Script.sentence("One FRAME more than are FREE, one SECTOR is FREE: there is room, but for no more", """
            new 2 1
            begin 4 = 0
            write 0 0 1 = 1
            write 0 16 2 = 1
            write 0 32 3 = 1
            write 0 48 4 = IllegalStateException
            write 0 0 4 = IllegalStateException
            read 0 0 = IllegalStateException
            new 2 2
            begin 3 = 0
            write 0 0 1 = 1
            write 0 16 2 = 1
            write 0 32 3 = 1
            freeSectors = 1
            read 0 0 = 1
            new 2 2
            begin 3 = 0
            write 0 0 1 = 1
            write 0 16 2 = 1
            write 0 32 3 = 1
            freeSectors = 1
            write 0 0 4 = 1
            """);
        Script.sentence("No FRAME more than are FREE: there is room, with no SECTOR FREE", """
            new 2 1
            begin 3 = 0
            write 0 0 1 = 1
            write 0 16 2 = 1
            write 0 32 3 = 1
            read 0 0 = IllegalStateException
            drop 0 1 = true
            read 0 0 = 1
            new 2 1
            begin 3 = 0
            write 0 0 1 = 1
            write 0 16 2 = 1
            write 0 32 3 = 1
            drop 0 1 = true
            write 0 0 4 = 1
            """);
        Script.sentence("No FRAME has to be TAKEN: there is room, with none FREE", """
            new 2 0
            begin 3 = 0
            write 0 0 1 = 1
            write 0 16 2 = 1
            write 0 32 3 = IllegalStateException
            write 0 0 4 = 0
            read 0 {0 16 32} = 4 2 0
            """);
        Script.sentence("A FRAME for a copy: no room, or one FRAME is FREE, or one SECTOR", """
            new 2 0
            begin 2 = 0
            write 0 0 1 = 1
            write 0 16 2 = 1
            fork 0 = 1
            write {0 1} {0 16} 9 = IllegalStateException
            read {0 1} 0 = 1
            drop 1 0 = true
            write 0 0 9 = 0
            write 1 16 9 = IllegalStateException
            new 3 0
            begin 2 = 0
            write 0 0 1 = 1
            write 0 16 2 = 1
            fork 0 = 1
            write 1 0 9 = 1
            write 1 16 9 = IllegalStateException
            new 2 1
            begin 2 = 0
            write 0 0 1 = 1
            write 0 16 2 = 1
            fork 0 = 1
            write 1 0 9 = 1
            freeSectors = 0
            """);
        Script.sentence("by more than there are FREE SECTORS: though what would go is not DIRTY and needs none", """
            new 2 2
            begin 3 = 0
            write 0 0 1 = 1
            write 0 16 2 = 1
            flush = 2
            write 0 32 3 = IllegalStateException
            fork 0 = 1
            write 1 0 3 = IllegalStateException
            drop 1 1 = true
            drop 0 1 = true
            write 0 32 3 = 1
            write 1 0 3 = 1
            """);
    }

    private static void roomForTwo() {
        Script.sentence("Two FRAMES to be TAKEN, none FREE: two SECTORS have to be FREE", """
            new 2 1
            """, SHARED_AND_GONE, """
            freeSectors = 0
            write {0 1} 0 4 = IllegalStateException
            new 2 2
            """, SHARED_AND_GONE, """
            freeSectors = 1
            write {0 1} 0 4 = IllegalStateException
            read 1 0 = 1
            new 2 3
            """, SHARED_AND_GONE, """
            freeSectors = 2
            write 1 0 4 = 2
            freeSectors = 0
            """);
        Script.sentence("Two FRAMES to be TAKEN, one FREE: one SECTOR has to be FREE", """
            new 2 1
            """, SHARED_AND_GONE, """
            drop 0 1 = true
            freeFrames = 1
            freeSectors = 0
            write {0 1} 0 4 = IllegalStateException
            read 1 0 = 1
            new 2 2
            """, SHARED_AND_GONE, """
            drop 0 1 = true
            freeFrames = 1
            freeSectors = 1
            write 1 0 4 = 2
            page 0 0 = 1 0 1 0
            page 1 0 = 0 NONE 1 1
            page 0 2 = NONE 1 1 0
            """);
        Script.sentence("Two FRAMES to be TAKEN, two FREE: no SECTOR has to be FREE", """
            new 2 1
            """, SHARED_AND_GONE, """
            drop 0 1 = true
            drop 0 2 = true
            freeFrames = 2
            freeSectors = 0
            write 1 0 4 = 2
            page 0 0 = 0 0 1 0
            page 1 0 = 1 NONE 1 1
            hand = 1
            """);
        Script.sentence("Two FRAMES would be TAKEN, but the other HOLDER is no more: one", """
            new 2 2
            """, SHARED_AND_GONE, """
            write 0 0 4 = IllegalStateException
            end 1 = true
            write 0 0 4 = 1
            """);
    }

    private static void refusedCallsChangeNothing() {
        Script.sentence("What throws, or answers false or NONE, changes nothing", """
            new 3 3
            begin 5 = 0
            write 0 0 10 = 1
            write 0 16 11 = 1
            write 0 32 12 = 1
            write 0 48 13 = 1
            fork 0 = 1
            write 1 16 9 = 1
            read 0 32 = 12
            # no FRAME, no SECTOR is FREE; the HAND is at 2, FRAME 0 is not USED; 0 and 2 are DIRTY
            freeFrames = 0
            freeSectors = 0
            hand = 2
            frame {0..2} 0 = 0 1 1
            page 0 {0..3} 3 = 0 0 0 1
            dirty = 2
            read {0 1} 0 = IllegalStateException
            read 0 16 = IllegalStateException
            write {0 1} {0 32 48 64} 1 = IllegalStateException
            write 0 16 1 = IllegalStateException
            flush = NONE
            read {-1 2 8} 0 = IndexOutOfBoundsException
            read 0 {-1 80} = IndexOutOfBoundsException
            write {-1 2 8} 0 1 = IndexOutOfBoundsException
            write 0 {-1 80} 1 = IndexOutOfBoundsException
            stored {-1 3} 0 = IndexOutOfBoundsException
            stored 0 {-1 16} = IndexOutOfBoundsException
            begin {-1 0 33} = NONE
            fork {-1 2 8} = NONE
            end {-1 2 8} = false
            drop {-1 2 8} 0 = false
            drop 0 {-1 4 5} = false
            page {-1 2 8} 0 = NONE
            page 0 {-1 5} = NONE
            page 0 0 {-1 4} = NONE
            frame {-1 3} = NONE
            frame 0 {-1 3 15 32} = NONE
            look {-1 11} = NONE
            hand = 2
            end 1 = true
            write 0 0 5 = 1
            page 0 0 = 2 0 1 1
            """);
        Script.sentence("What answers NONE, for there are eight, changes nothing", """
            new 2 1
            begin 2 = 0
            write 0 0 1 = 1
            """, Script.each(1, 7, "fork 0 = %d"), """
            begin {0 1 2 33} = NONE
            fork {-1 0 7 8} = NONE
            processes = 8
            page 0 0 = 0 NONE 8 1
            page 7 0 = 0 NONE 8 1
            """);
    }

    private static void firstException() {
        Script.sentence("Of several exceptions the first one listed is thrown", """
            new 2 0
            begin 3 = 0
            write 0 0 1 = 1
            write 0 16 2 = 1
            write 0 32 3 = IllegalStateException
            write {-1 1 8} 32 3 = IndexOutOfBoundsException
            write 0 {-1 48 MIN MAX} 3 = IndexOutOfBoundsException
            write 1 -1 3 = IndexOutOfBoundsException
            new 2 1
            begin 3 = 0
            write 0 0 1 = 1
            write 0 16 2 = 1
            write 0 32 3 = 1
            read 0 0 = IllegalStateException
            read {-1 1 8} 0 = IndexOutOfBoundsException
            read 0 {-1 48 MIN MAX} = IndexOutOfBoundsException
            read 1 -1 = IndexOutOfBoundsException
            """);
    }
}
