/** The boundary cases that 'Terms' names for launches, children, fitting, the cycle and races. */
public final class TermsOfLaunchesTest extends Checks {
    public static void main(String[] args) {
        Sentences.run(TermsOfLaunchesTest.class);
    }

    /** A machine with the kernels: 0 ends at once, 1 fails in its second instruction, 2 goes on for ever. */
    private static LaneMill withKernels() {
        LaneMill mill = new LaneMill();
        kernel(mill, 1, 0, "k 0 1");
        kernel(mill, 1, 0, "k 0 64", "r 0 0");
        kernel(mill, 1, 0, "j 0");
        return mill;
    }

    private static final int ENDS = 0;
    private static final int FAILS = 1;
    private static final int STAYS = 2;

    private static int launch(LaneMill mill, int queue, int kernel, int after) {
        return mill.launch(queue, kernel, 1, 1, after);
    }

    // ---- Terms

    @Sentence(of = "Terms", says = "Threads of a block run in groups of 4")
    static void groupsOfFour() {
        LaneMill four = launched(1, 4, 1, 0, "j 0");
        four.step(1);
        due("four", groups(four), "1 0");
        LaneMill five = launched(1, 5, 1, 0, "j 0");
        five.step(1);
        due("one more", groups(five), "2 0");
    }

    private static final String[] SAME_MEMORY = {"n 0", "k 1 10", "* 0 0 1", "t 1", "+ 0 0 1", "W 1 0", "w 0 0", "b", "k 2 8",
        "- 2 2 1", "R 2 2", "w 0 2"};

    @Sentence(of = "Terms", says = "A kernel that runs with nothing beside it, without races, children, and the letters 'a' and "
        + "'x', leaves the same memory for each order of groups.")
    static void ordersLeaveTheSameMemory() {
        String[] results = new String[3];
        for (int i = 0; i < 3; i++) {
            LaneMill mill = launched(6, 9, 3, 9, SAME_MEMORY);
            mill.setOrder("oya".charAt(i));
            mill.run(500);
            due("done", mill.state(0) + racingCells(mill, 0), "d/0");
            results[i] = cells(mill, 0, 63);
        }
        due("'y' as 'o'", results[1], results[0]);
        due("'a' as 'o'", results[2], results[0]);
        LaneMill serial = new LaneMill();
        due("kernel", kernel(serial, 3, 9, SAME_MEMORY), 0);
        for (boolean isFalling : new boolean[] {false, true}) {
            StringBuilder text = new StringBuilder();
            for (int cell = 0; cell < 64; cell++) {
                text.append(cell == 0 ? "" : " ").append(serial.serial(0, 6, 9, isFalling, cell));
            }
            due("threads one after the other", text.toString(), results[0]);
        }
        due("cells of the last block", results[0].endsWith(" 58 57 56 55 54 53 52 51 50 0 0 0 0 0"), true);
    }

    @Sentence(of = "Terms", says = "wait for delays, for barriers of their block, and for nothing else")
    static void groupsWaitForNothingElse() {
        LaneMill mill = launched(1, 4, 2, 0, "t 0", "f", "f", "w 0 0", "k 1 1", "k 1 2", "j 6");
        mill.launch(0, 0, 6, 16, -1);
        due("with a full buffer, and a launch behind it", mill.step(7) + " " + mill.place(0, 0), "7 6");
        LaneMill barrier = launched(2, 1, 1, 0, "n 0", "z 0 3", "b", "k 0 1", "j 4");
        due("and not for a barrier of another block", barrier.step(5) + " " + places(barrier, 0) + " " + places(barrier, 1),
            "10 4 4");
    }

    @Sentence(of = "Terms", says = "writes wait in a buffer of the group before other groups see them")
    static void otherGroupsSeeWritesThatHaveLeftTheBuffer() {
        LaneMill mill = launched(2, 1, 3, 0, "n 0", "z 0 4", "r 1 2", "j 2", "f", "k 0 7", "w 2 0", "j 7");
        // The block 1 reads cell 0 in the cycles 2, 9, 12 and so on; the block 0 writes it in the cycle 4.
        mill.step(5);
        due("it waits", mill.buffered(0, 0) + " " + mill.peek(0), "1 0");
        mill.step(1);
        due("it is written", mill.buffered(0, 0) + " " + mill.peek(0) + " " + mill.register(1, 0, 0, 1), "0 7 0");
        mill.step(9);
        due("the block 1 sees it", mill.register(1, 0, 0, 1), 7);
    }

    @Sentence(of = "Terms", says = "What a kernel does to the memory can also be found by running its threads one after the other.")
    static void oneThreadDoesTheSameInSerial() {
        String[] lines = {"k 0 9", "r 1 0", "k 2 1", "+ 1 1 2", "w 0 1", "a 1 0 2", "W 2 1", "R 0 2", "w 2 0"};
        LaneMill mill = new LaneMill();
        kernel(mill, 3, 2, lines);
        mill.poke(9, 40);
        String serial = mill.serial(0, 1, 1, false, 9) + " " + mill.serial(0, 1, 1, true, 1);
        mill.launch(0, 0, 1, 1, -1);
        mill.run(99);
        due("cells 9 and 1", mill.peek(9) + " " + mill.peek(1), serial);
        due("they are", serial, "42 41");
    }

    // ---- Launches

    @Sentence(of = "Launches", says = "At most 12 launches are numbered from 0, copies and children included.")
    static void twelveLaunchesOfTheHost() {
        LaneMill mill = withKernels();
        due("none yet", mill.launches(), 0);
        refuses("the launch 0", INDEX, () -> mill.state(0));
        for (int i = 0; i < 12; i++) {
            due("number", i % 2 == 0 ? launch(mill, 0, ENDS, -1) : mill.copy(1, 0, 1, 1, -1), i);
        }
        due("twelve", mill.launches() + " " + mill.state(11), "12 q");
        refuses("one more", STATE, () -> launch(mill, 0, ENDS, -1));
        refuses("one more copy", STATE, () -> mill.copy(0, 0, 1, 1, -1));
        refuses("the launch 12", INDEX, () -> mill.state(12));
        mill.run(99);
        refuses("also when all are over", STATE, () -> launch(mill, 0, ENDS, -1));
        due("twelve still", mill.launches(), 12);
    }

    @Sentence(of = "Launches", says = "At most 12 launches are numbered from 0, copies and children included.")
    static void childrenAreAmongTheTwelve() {
        LaneMill mill = new LaneMill();
        kernel(mill, 1, 0, "k 0 1", "c 0 1 0", "j 3", "k 0 1", "c 0 1 0");
        kernel(mill, 1, 0, "e");
        launch(mill, 0, 0, -1);
        for (int i = 1; i < 11; i++) {
            mill.copy(1, 0, 1, 1, -1);
        }
        mill.run(99);
        due("the child 11, and one refused", mill.launches() + " " + mill.parent(11) + " " + mill.refused(), "12 0 1");
        refuses("one of the host", STATE, () -> launch(mill, 0, 1, -1));
        refuses("a copy", STATE, () -> mill.copy(0, 0, 0, 1, -1));
    }

    @Sentence(of = "Launches", says = "A launch of the host is in the queue 0 or 1, behind earlier ones of this queue, and "
        + "perhaps after another launch.")
    static void queuesGoBesideEachOther() {
        LaneMill mill = withKernels();
        launch(mill, 0, ENDS, -1);
        launch(mill, 0, ENDS, -1);
        launch(mill, 1, ENDS, -1);
        launch(mill, 1, ENDS, 0);
        mill.step(1);
        due("the first ones", states(mill), "dqdq");
        mill.step(1);
        due("the second ones", states(mill), "dddd");
    }

    @Sentence(of = "Launches", says = "it is over if it is done, failed or cancelled")
    static void launchesAreOver() {
        LaneMill mill = withKernels();
        launch(mill, 0, ENDS, -1);
        launch(mill, 0, FAILS, -1);
        launch(mill, 0, ENDS, -1);
        due("run", mill.run(500) + " " + states(mill), "4 dfx");
        due("all are over", mill.run(500), 0);
        launch(mill, 0, STAYS, -1);
        due("one runs", mill.run(7) + " " + states(mill), "7 dfxr");
        launch(mill, 0, ENDS, -1);
        due("one is queued", mill.run(7) + " " + states(mill), "7 dfxrq");
    }

    @Sentence(of = "Launches", says = "A launch of a kernel is done as soon as all of its blocks have ended and all of its children "
        + "are over")
    static void allBlocksHaveEnded() {
        LaneMill mill = launched(6, 16, 1, 0, "k 0 1");
        // Each block takes four cycles, and two are beside each other.
        mill.step(11);
        due("one cycle ahead", mill.state(0) + " " + mill.given(0), "r 6");
        mill.step(1);
        due("with the last block", mill.state(0) + " / " + groups(mill), "d / 0 0");
    }

    @Sentence(of = "Launches", says = "A launch of a kernel is done as soon as all of its blocks have ended and all of its children "
        + "are over")
    static void allChildrenAreOver() {
        LaneMill mill = new LaneMill();
        kernel(mill, 2, 0, "l 0", "k 1 1", "c 0 1 1");
        kernel(mill, 1, 0, "k 0 1", "k 0 1");
        mill.launch(0, 0, 1, 2, -1);
        mill.step(3);
        due("its block has ended", states(mill) + " / " + groups(mill), "rqq / 0 0");
        mill.step(1);
        due("its children run", states(mill) + " / " + groups(mill), "rrr / 1 1");
        mill.step(1);
        due("as soon as they are done", states(mill), "ddd");
    }

    @Sentence(of = "Launches", says = "A launch of a kernel is done as soon as all of its blocks have ended and all of its children "
        + "are over")
    static void childrenThatFailAreOverToo() {
        LaneMill mill = new LaneMill();
        kernel(mill, 1, 0, "k 0 1", "c 0 1 0");
        kernel(mill, 1, 0, "k 0 -1", "r 0 0");
        mill.launch(0, 0, 1, 1, -1);
        mill.step(3);
        due("the child runs", states(mill), "rr");
        mill.step(1);
        due("failed, and done", states(mill), "df");
        LaneMill grand = new LaneMill();
        kernel(grand, 1, 0, "k 0 1", "c 0 1 0");
        kernel(grand, 1, 0, "k 0 1", "c 0 2 0", "r 0 0", "k 0 -1", "r 0 0");
        kernel(grand, 1, 0, "j 0");
        grand.launch(0, 0, 1, 1, -1);
        grand.step(50);
        due("a child of the child goes on", states(grand), "dfr");
    }

    @Sentence(of = "Launches", says = "A launch of a kernel is done as soon as all of its blocks have ended and all of its children "
        + "are over")
    static void childrenOfChildrenAreWaitedFor() {
        LaneMill mill = new LaneMill();
        kernel(mill, 1, 0, "k 0 1", "c 0 1 0");
        kernel(mill, 1, 0, "k 0 1", "c 0 2 0");
        kernel(mill, 1, 0, "k 0 1", "k 0 1", "k 0 1");
        mill.launch(0, 0, 1, 1, -1);
        mill.step(6);
        due("two wait", states(mill) + " / " + groups(mill), "rrr / 1 0");
        mill.step(1);
        due("all at once", states(mill), "ddd");
    }

    @Sentence(of = "Launches", says = "a block has ended when all of its threads have")
    static void oneThreadIsEnoughForABlockToStay() {
        LaneMill mill = launched(1, 16, 2, 0, "t 0", "k 1 15", "= 1 0 1", "z 1 5", "j 4", "e");
        mill.step(60);
        due("fifteen have ended", mill.reason(0, 0) + "" + mill.reason(0, 1) + mill.reason(0, 2) + mill.mask(0, 3), "eee8");
        due("the block stays", mill.state(0) + " / " + groups(mill), "r / 4 0");
    }

    @Sentence(of = "Launches", says = "A copy moves cells of the global memory to others, one in each cycle.")
    static void copiesOfOneAndOf64Cells() {
        LaneMill one = new LaneMill();
        one.poke(63, 4);
        one.copy(0, 63, 0, 1, -1);
        due("one cell", one.step(1) + " " + one.peek(0) + " " + one.state(0), "0 4 d");
        LaneMill all = new LaneMill();
        all.copy(0, 0, 0, 64, -1);
        all.step(63);
        due("63 cells", all.state(0), 'r');
        all.step(1);
        due("64 cells", all.state(0), 'd');
    }

    @Sentence(of = "Launches", says = "A copy moves cells of the global memory to others, one in each cycle.")
    static void copiesMayOverlap() {
        LaneMill up = new LaneMill();
        LaneMill down = new LaneMill();
        for (int cell = 0; cell < 6; cell++) {
            up.poke(cell, cell + 1);
            down.poke(cell, cell + 1);
        }
        up.copy(0, 0, 2, 4, -1);
        up.step(2);
        due("two moved", cells(up, 0, 5), "1 2 1 2 5 6");
        up.step(2);
        due("those that were moved are moved again", cells(up, 0, 5) + " " + up.state(0), "1 2 1 2 1 2 d");
        down.copy(0, 2, 0, 4, -1);
        down.run(9);
        due("the other way", cells(down, 0, 5), "3 4 5 6 5 6");
    }

    // ---- Children

    /** What becomes of a child of a kernel that is told by its registers and shared cells. */
    private static String child(int kernel, int threads, int registers, int shared) {
        LaneMill mill = new LaneMill();
        kernel(mill, 1, 0, "k 0 " + threads, "c 0 " + kernel + " 0", "j 2");
        kernel(mill, registers, shared, "j 0");
        mill.launch(0, 0, 1, 1, -1);
        mill.step(2);
        return mill.register(0, 0, 0, 0) + " " + mill.launches() + " " + mill.refused();
    }

    private static final String TAKEN = "1 2 0";
    private static final String REFUSED = "0 1 1";

    @Sentence(of = "Children", says = "A child is refused if there is no such kernel")
    static void childrenOfNoKernel() {
        due("kernel 0", child(0, 1, 1, 0), TAKEN);
        due("kernel 1", child(1, 1, 1, 0), TAKEN);
        due("kernel 2", child(2, 1, 1, 0), REFUSED);
        due("kernel 3", child(3, 1, 1, 0), REFUSED);
    }

    @Sentence(of = "Children", says = "the number of threads is not from 1 to 16")
    static void childrenOfTooFewOrTooManyThreads() {
        for (int threads : new int[] {LEAST, -1, 0, 17, 18, GREATEST}) {
            due("threads " + threads, child(1, threads, 1, 0), REFUSED);
        }
        due("1 thread", child(1, 1, 1, 0), TAKEN);
        due("16 threads", child(1, 16, 1, 0), TAKEN);
    }

    @Sentence(of = "Children", says = "no block of this size fits into an empty unit")
    static void childrenWhoseBlockDoesNotFit() {
        due("64 registers", child(1, 8, 8, 16), TAKEN);
        due("72 registers", child(1, 9, 8, 0), REFUSED);
        due("63 registers", child(1, 9, 7, 0), TAKEN);
        due("65 registers", child(1, 13, 5, 0), REFUSED);
        due("64 registers of 16 threads", child(1, 16, 4, 0), TAKEN);
        due("80 registers", child(1, 16, 5, 0), REFUSED);
    }

    @Sentence(of = "Children", says = "no block of this size fits into an empty unit")
    static void childrenWaitForRoomInUnitsThatAreNotEmpty() {
        LaneMill mill = new LaneMill();
        kernel(mill, 1, 0, "k 0 16", "c 0 1 0", "k 0 1");
        kernel(mill, 1, 0, "e");
        kernel(mill, 1, 0, "k 0 1", "k 0 1", "k 0 1", "k 0 1", "k 0 1");
        mill.launch(0, 0, 1, 1, -1);
        mill.launch(1, 2, 1, 16, -1);
        mill.step(8);
        due("launched, without room", states(mill) + " " + mill.given(2) + " / " + groups(mill), "rrr 1 / 4 4");
        LaneMill full = new LaneMill();
        kernel(full, 1, 0, "k 0 16", "c 0 1 0", "j 2");
        kernel(full, 1, 0, "e");
        full.launch(0, 0, 2, 1, -1);
        full.step(30);
        due("taken, and they stay", states(full) + " " + full.refused() + " " + full.given(1) + full.given(2) + " / "
            + groups(full), "rrr 0 00 / 1 1");
    }

    @Sentence(of = "Children", says = "there are 12 launches")
    static void theTwelfthLaunchIsTakenAndOneMoreIsRefused() {
        for (int copies : new int[] {10, 11}) {
            LaneMill mill = new LaneMill();
            kernel(mill, 1, 0, "k 0 1", "c 0 1 0", "j 2");
            kernel(mill, 1, 0, "e");
            mill.launch(0, 0, 1, 1, -1);
            for (int i = 0; i < copies; i++) {
                mill.copy(1, 0, 0, 1, -1);
            }
            mill.step(2);
            due("with " + copies + " copies", mill.register(0, 0, 0, 0) + " " + mill.launches() + " " + mill.refused(),
                copies == 10 ? "1 12 0" : "0 12 1");
        }
    }

    @Sentence(of = "Children", says = "or its depth would be greater than 2")
    static void childrenOfTheDepth3() {
        LaneMill mill = launched(1, 1, 1, 0, "k 0 1", "c 0 0 0");
        mill.run(99);
        due("three launches, one refused", mill.launches() + " " + mill.refused() + " " + states(mill), "3 1 ddd");
        due("one is the child of the other", mill.parent(1) + " " + mill.parent(2), "0 1");
    }

    @Sentence(of = "Children", says = "the depth of a launch of the host is 0, that of a child 1 more than that of the launch of "
        + "the thread")
    static void depthsAreThoseOfTheThreadsLaunch() {
        // Three children beside each other have all the depth 1, and each one has children of its own.
        LaneMill mill = new LaneMill();
        kernel(mill, 1, 0, "k 0 1", "c 0 1 0", "k 0 1", "c 0 1 0", "k 0 1", "c 0 1 0");
        kernel(mill, 1, 0, "k 0 1", "c 0 2 0");
        kernel(mill, 1, 0, "k 0 1", "c 0 2 0");
        mill.launch(0, 0, 1, 1, -1);
        mill.run(99);
        due("launches", mill.launches() + " " + mill.refused(), "7 3");
        mill.launch(1, 2, 1, 1, 6);
        mill.run(99);
        due("a launch of the host after one of the depth 2", mill.launches() + " " + mill.refused(), "10 4");
    }

    @Sentence(of = "Children", says = "Children are in no queue.")
    static void queuesDoNotWaitForChildren() {
        LaneMill mill = new LaneMill();
        kernel(mill, 1, 0, "k 0 1", "c 0 1 0", "k 0 64", "r 0 0");
        kernel(mill, 1, 0, "j 0");
        kernel(mill, 1, 0, "e");
        launch(mill, 0, 0, -1);
        launch(mill, 1, 2, -1);
        mill.step(20);
        due("the child goes on", states(mill), "fdr");
        launch(mill, 0, 2, -1);
        launch(mill, 1, 2, -1);
        mill.setOrder('y');
        mill.step(2);
        due("queues do too", states(mill), "fdrdd");
    }

    // ---- Fitting

    @Sentence(of = "Fitting", says = "A block needs as many groups as its threads divided by 4, rounded up, as many registers as its "
        + "threads times those of its kernel, and the shared cells of its kernel.")
    static void blocksNeedGroupsRoundedUp() {
        LaneMill mill = new LaneMill();
        mill.addKernel(1, 0);
        int[] fits = {4, 4, 4, 4, 2, 2, 2, 2, 1, 1, 1, 1, 1, 1, 1, 1};
        for (int threads = 1; threads <= 16; threads++) {
            due("of " + threads, mill.fits(0, threads), fits[threads - 1]);
        }
    }

    @Sentence(of = "Fitting", says = "A block needs as many groups as its threads divided by 4, rounded up, as many registers as its "
        + "threads times those of its kernel, and the shared cells of its kernel.")
    static void blocksNeedRegistersOfAllThreads() {
        LaneMill mill = new LaneMill();
        mill.addKernel(8, 0);
        mill.addKernel(5, 0);
        due("4 by 8", mill.fits(0, 4), 2);
        due("3 by 8", mill.fits(0, 3), 2);
        due("2 by 8", mill.fits(0, 2), 4);
        due("8 by 8", mill.fits(0, 8), 1);
        due("9 by 8", mill.fits(0, 9), 0);
        due("16 by 8", mill.fits(0, 16), 0);
        due("12 by 5", mill.fits(1, 12), 1);
        due("13 by 5", mill.fits(1, 13), 0);
    }

    @Sentence(of = "Fitting", says = "A block needs as many groups as its threads divided by 4, rounded up, as many registers as its "
        + "threads times those of its kernel, and the shared cells of its kernel.")
    static void blocksNeedTheirSharedCells() {
        int[] fits = {4, 4, 4, 4, 4, 4, 4, 4, 4, 3, 3, 2, 2, 2, 2, 2, 2};
        for (int shared = 0; shared <= 16; shared++) {
            LaneMill mill = new LaneMill();
            mill.addKernel(1, shared);
            due("of " + shared, mill.fits(0, 1), fits[shared]);
        }
    }

    @Sentence(of = "Fitting", says = "It fits into a unit if there is room for all of this.")
    static void oneThingThatIsMissingIsEnough() {
        int[][] rows = {{1, 1, 0, 4}, {4, 8, 0, 2}, {1, 1, 11, 2}, {4, 4, 8, 4}, {4, 4, 9, 3}, {8, 8, 16, 1}, {5, 6, 16, 2},
            {5, 7, 16, 1}};
        for (int[] row : rows) {
            LaneMill mill = launched(6, row[0], row[1], row[2], "j 0");
            due("fits", mill.fits(0, row[0]), row[3]);
            mill.step(1);
            due("given", mill.given(0), Math.min(6, 2 * row[3]));
        }
    }

    // ---- A cycle: queues

    @Sentence(of = "A cycle", says = "The cycle is 0 at first.")
    static void theFirstCycle() {
        LaneMill mill = new LaneMill();
        due("cycle", mill.cycle(), 0);
        mill.step(1);
        due("cycle", mill.cycle(), 1);
    }

    @Sentence(of = "A cycle", says = "as long as the first launch that is not over is queued")
    static void severalLaunchesAreCancelledInOneCycle() {
        LaneMill mill = withKernels();
        launch(mill, 0, FAILS, -1);
        for (int i = 0; i < 4; i++) {
            launch(mill, 0, ENDS, -1);
        }
        mill.step(2);
        due("failed", states(mill), "fqqqq");
        mill.step(1);
        due("all the others", states(mill), "fxxxx");
    }

    @Sentence(of = "A cycle", says = "as long as the first launch that is not over is queued")
    static void oneOfAQueueRunsAtATime() {
        LaneMill mill = withKernels();
        launch(mill, 0, STAYS, -1);
        launch(mill, 0, ENDS, -1);
        mill.copy(0, 0, 1, 1, -1);
        mill.step(100);
        due("the first one runs", states(mill), "rqq");
        LaneMill done = withKernels();
        launch(done, 0, ENDS, -1);
        launch(done, 0, ENDS, -1);
        done.step(1);
        due("the next one comes in the next cycle", states(done), "dq");
        done.step(1);
        due("it runs", states(done), "dd");
    }

    @Sentence(of = "A cycle", says = "if the launch ahead of it in the queue, unless that one was over when it was launched")
    static void theLaunchAheadHasFailed() {
        LaneMill mill = withKernels();
        launch(mill, 0, FAILS, -1);
        launch(mill, 0, ENDS, -1);
        launch(mill, 1, ENDS, -1);
        mill.step(2);
        launch(mill, 0, ENDS, -1);
        mill.step(1);
        due("the one behind the one behind as well", states(mill), "fxdx");
        launch(mill, 0, ENDS, -1);
        mill.step(1);
        due("it was cancelled already", states(mill), "fxdxd");
    }

    @Sentence(of = "A cycle", says = "if the launch ahead of it in the queue, unless that one was over when it was launched")
    static void theLaunchAheadWasOver() {
        LaneMill mill = withKernels();
        launch(mill, 0, FAILS, -1);
        mill.step(2);
        launch(mill, 0, ENDS, -1);
        due("failed", states(mill), "fq");
        mill.step(1);
        due("it runs", states(mill), "fd");
        LaneMill done = withKernels();
        launch(done, 0, ENDS, -1);
        launch(done, 0, ENDS, -1);
        done.run(9);
        due("one that is done cancels none", states(done), "dd");
    }

    @Sentence(of = "A cycle", says = "or the one after which it is, whenever that was over, has failed or was cancelled, it is "
        + "cancelled")
    static void theLaunchAfterWhichItIsHasFailed() {
        LaneMill mill = withKernels();
        launch(mill, 0, FAILS, -1);
        launch(mill, 0, ENDS, -1);
        launch(mill, 1, ENDS, 0);
        mill.step(2);
        due("failed", states(mill), "fqq");
        mill.step(1);
        due("cancelled", states(mill), "fxx");
        launch(mill, 1, ENDS, 0);
        mill.step(1);
        due("after one that was over", states(mill), "fxxx");
        launch(mill, 0, ENDS, 1);
        mill.step(1);
        due("after one that was cancelled", states(mill), "fxxxx");
    }

    @Sentence(of = "A cycle", says = "or the one after which it is, whenever that was over, has failed or was cancelled, it is "
        + "cancelled")
    static void aLaunchMayBeAfterACopyOrAChild() {
        LaneMill mill = new LaneMill();
        kernel(mill, 1, 0, "k 0 1", "c 0 1 0");
        kernel(mill, 1, 0, "k 0 64", "r 0 0");
        kernel(mill, 1, 0, "e");
        launch(mill, 0, 0, -1);
        mill.step(2);
        due("the child", mill.parent(1), 0);
        launch(mill, 1, 2, 1);
        mill.copy(0, 0, 1, 2, -1);
        launch(mill, 1, 2, 3);
        mill.step(2);
        due("the child has failed", states(mill), "dfqqq");
        mill.step(1);
        due("cancelled", states(mill), "dfxrx");
        launch(mill, 1, 2, 3);
        mill.step(1);
        due("the copy ends", states(mill), "dfxdxq");
        mill.step(1);
        due("after the copy", states(mill), "dfxdxd");
    }

    @Sentence(of = "A cycle", says = "otherwise, if the one after which it is, if any, is not over, this queue is left")
    static void aQueueIsLeftForALaunchThatIsNotOver() {
        LaneMill mill = withKernels();
        launch(mill, 1, STAYS, -1);
        launch(mill, 0, ENDS, 0);
        launch(mill, 0, ENDS, -1);
        mill.step(20);
        due("both wait", states(mill), "rqq");
        LaneMill queued = withKernels();
        launch(queued, 1, STAYS, -1);
        launch(queued, 1, ENDS, -1);
        launch(queued, 0, ENDS, 1);
        queued.step(20);
        due("one that is queued is not over", states(queued), "rqq");
    }

    @Sentence(of = "A cycle", says = "otherwise, if the one after which it is, if any, is not over, this queue is left")
    static void aLaunchThatHasFailedAheadCountsFirst() {
        LaneMill mill = withKernels();
        launch(mill, 1, STAYS, -1);
        launch(mill, 0, FAILS, -1);
        launch(mill, 0, ENDS, 0);
        mill.step(3);
        due("cancelled, and not left", states(mill), "rfx");
    }

    @Sentence(of = "A cycle", says = "otherwise it runs")
    static void aLaunchRunsAfterOneThatIsDone() {
        LaneMill mill = withKernels();
        launch(mill, 0, ENDS, -1);
        launch(mill, 0, ENDS, 0);
        launch(mill, 1, ENDS, 0);
        mill.step(1);
        due("done", states(mill), "dqq");
        mill.step(1);
        due("after it", states(mill), "ddd");
        launch(mill, 1, STAYS, 0);
        mill.step(1);
        due("after one that was done long ago", states(mill), "dddr");
    }

    @Sentence(of = "A cycle", says = "First, in the queue 0 and then in the queue 1")
    static void theQueue0ComesFirst() {
        LaneMill mill = withKernels();
        launch(mill, 0, FAILS, -1);
        launch(mill, 0, ENDS, -1);
        launch(mill, 1, ENDS, 1);
        mill.step(3);
        due("cancelled in the same cycle", states(mill), "fxx");
        LaneMill other = withKernels();
        launch(other, 1, FAILS, -1);
        launch(other, 1, ENDS, -1);
        launch(other, 0, ENDS, 1);
        other.step(3);
        due("not yet", states(other), "fxq");
        other.step(1);
        due("in the next cycle", states(other), "fxx");
    }

    @Sentence(of = "A cycle", says = "All children that are queued run.")
    static void childrenRunInTheNextCycle() {
        LaneMill mill = new LaneMill();
        kernel(mill, 1, 0, "k 0 1", "c 0 1 0", "j 2");
        kernel(mill, 1, 0, "j 0");
        mill.launch(0, 0, 2, 1, -1);
        mill.step(2);
        due("queued, that of the unit 0 too", states(mill) + " " + mill.given(1), "rqq 0");
        mill.step(1);
        due("both run", states(mill) + " " + mill.given(1) + mill.given(2), "rrr 11");
    }

    // ---- A cycle: copies

    @Sentence(of = "A cycle", says = "Second, each copy that runs, by rising numbers, moves its next cell; behind the last one it is "
        + "done.")
    static void copiesMoveByRisingNumbers() {
        LaneMill mill = new LaneMill();
        mill.poke(0, 1);
        mill.poke(10, 2);
        mill.copy(0, 0, 10, 1, -1);
        mill.copy(1, 10, 20, 1, -1);
        mill.step(1);
        due("the copy 0 first", cells(mill, 10, 10) + " " + mill.peek(20) + " " + states(mill), "1 1 dd");
        LaneMill other = new LaneMill();
        other.poke(0, 1);
        other.poke(10, 2);
        other.copy(1, 10, 20, 1, -1);
        other.copy(0, 0, 10, 1, -1);
        other.step(1);
        due("also if it is in the queue 1", other.peek(10) + " " + other.peek(20), "1 2");
    }

    @Sentence(of = "A cycle", says = "Second, each copy that runs, by rising numbers, moves its next cell; behind the last one it is "
        + "done.")
    static void copiesMoveAheadOfInstructions() {
        LaneMill mill = launched(1, 1, 2, 0, "r 0 1", "j 1");
        mill.poke(1, 6);
        mill.copy(1, 1, 0, 2, -1);
        mill.step(1);
        due("r in the same cycle", mill.register(0, 0, 0, 0) + " " + mill.state(1), "6 r");
        mill.step(1);
        due("behind the last cell", mill.state(1), 'd');
    }

    @Sentence(of = "A cycle", says = "In a cycle, the following happens in this order.")
    static void launchesRunAndAreAtWorkInTheSameCycle() {
        LaneMill mill = launched(1, 1, 1, 0, "k 0 1", "j 1");
        mill.copy(1, 0, 1, 2, -1);
        mill.poke(0, 3);
        due("run, given, and carried out", mill.step(1) + " " + states(mill) + " " + mill.given(0) + " " + mill.place(0, 0),
            "1 rr 1 1");
        due("run, and moved", mill.peek(1), 3);
    }

    @Sentence(of = "A cycle", says = "In a cycle, the following happens in this order.")
    static void writesComeBehindCopiesAndInstructions() {
        // In the cycle 2 the copy moves cell 30 to cell 20, and 'w' of cell 20 comes into the buffer and out of it.
        LaneMill mill = launched(1, 1, 2, 0, "k 0 20", "k 1 5", "w 0 1", "j 3");
        mill.copy(1, 28, 18, 3, -1);
        mill.poke(30, 9);
        mill.step(3);
        due("the write is the last", mill.peek(20) + " " + mill.buffered(0, 0) + " " + mill.state(1), "5 0 d");
    }

    @Sentence(of = "A cycle", says = "Fifth, writes are written from buffers, as told above.")
    static void writesAreWrittenAtTheEndOfTheirCycle() {
        LaneMill mill = launched(1, 2, 1, 0, "f", "f", "w 0 0", "r 0 0", "j 4");
        mill.poke(0, 6);
        mill.step(2);
        due("none", mill.buffered(0, 0) + " " + mill.peek(0), "0 6");
        mill.step(1);
        due("one of two", mill.buffered(0, 0) + " " + mill.peek(0), "1 0");
    }

    // ---- A cycle: blocks

    @Sentence(of = "A cycle", says = "Third, launches of kernels that run are gone through by rising numbers")
    static void blocksAreGivenByRisingNumbersOfLaunches() {
        LaneMill mill = withKernels();
        launch(mill, 1, STAYS, -1);
        launch(mill, 0, STAYS, -1);
        mill.step(1);
        due("the launch 0, though in the queue 1", threads(mill, 0) + " / " + threads(mill, 1), "0 / 1000");
        LaneMill room = withKernels();
        room.launch(1, STAYS, 2, 12, -1);
        room.launch(0, STAYS, 1, 8, -1);
        room.step(1);
        due("the launch 0 takes the room", room.given(0) + " " + room.given(1), "2 0");
    }

    @Sentence(of = "A cycle", says = "as long as the next block of a launch fits into a unit, it is given to one")
    static void otherLaunchesGoOnWhenABlockDoesNotFit() {
        LaneMill mill = withKernels();
        mill.launch(0, STAYS, 3, 9, -1);
        mill.launch(1, STAYS, 6, 4, -1);
        mill.step(1);
        due("two blocks, and two of the next launch", mill.given(0) + " " + mill.given(1), "2 2");
        mill.step(20);
        due("no more", mill.given(0) + " " + mill.given(1) + " " + states(mill), "2 2 rr");
    }

    @Sentence(of = "A cycle", says = "as long as the next block of a launch fits into a unit, it is given to one")
    static void launchesThatAreQueuedGetNoBlocks() {
        LaneMill mill = withKernels();
        launch(mill, 0, STAYS, -1);
        launch(mill, 0, STAYS, -1);
        mill.copy(1, 0, 1, 64 - 1, -1);
        launch(mill, 1, STAYS, -1);
        mill.step(10);
        due("one", mill.given(0) + "" + mill.given(1) + mill.given(2) + mill.given(3) + " / " + groups(mill), "1000 / 1 0");
    }

    @Sentence(of = "A cycle", says = "to the one that has fewer groups, or to the unit 0; the block with the lowest number is next")
    static void blocksGoToTheUnitWithFewerGroups() {
        LaneMill mill = launched(6, 1, 1, 0, "j 0");
        mill.step(1);
        due("by turns", threads(mill, 0) + " / " + threads(mill, 1), "0 200 400 / 100 300 500");
        LaneMill wide = withKernels();
        wide.launch(0, STAYS, 1, 8, -1);
        wide.launch(1, STAYS, 4, 4, -1);
        wide.step(1);
        due("two groups in the unit 0", threads(wide, 0) + " / " + threads(wide, 1), "0 4 1200 / 1000 1100 1300");
    }

    @Sentence(of = "A cycle", says = "to the one that has fewer groups, or to the unit 0; the block with the lowest number is next")
    static void blocksGoWhereTheyFit() {
        LaneMill mill = new LaneMill();
        kernel(mill, 8, 0, "j 0");
        kernel(mill, 1, 0, "j 0");
        mill.launch(0, 0, 1, 8, -1);
        mill.launch(1, 1, 4, 4, -1);
        mill.step(1);
        due("registers are full in the unit with fewer groups", threads(mill, 0) + " / " + threads(mill, 1),
            "0 4 / 1000 1100 1200 1300");
    }

    @Sentence(of = "A cycle", says = "Shared cells of a block are 0 at first.")
    static void sharedCellsAre0AtFirst() {
        LaneMill mill = launched(1, 1, 1, 16, "j 0");
        mill.step(1);
        for (int cell = 0; cell < 16; cell++) {
            due("cell " + cell, mill.shared(0, 0, cell), 0);
        }
        LaneMill later = launched(6, 1, 3, 16, "k 0 15", "R 1 0", "a 2 1 1", "n 2", "k 2 5", "W 0 2");
        later.poke(0, 9);
        later.run(99);
        due("those of later blocks too", later.state(0) + " " + later.peek(0) + " " + later.peek(5), "d 9 0");
    }

    // ---- A cycle: groups

    @Sentence(of = "A cycle", says = "Fourth, in the unit 0 and then in the unit 1, one group carries out an instruction, if there "
        + "is one that can")
    static void theUnit0ComesFirst() {
        LaneMill mill = launched(2, 1, 3, 0, "k 1 1", "a 0 2 1", "j 2");
        mill.step(2);
        due("'a' by turns", mill.register(0, 0, 0, 0) + " " + mill.register(1, 0, 0, 0) + " " + mill.peek(0), "0 1 2");
    }

    @Sentence(of = "A cycle", says = "one group carries out an instruction, if there is one that can: one that has threads that run, "
        + "and whose delay is over")
    static void oneGroupInEachUnit() {
        LaneMill mill = launched(6, 1, 1, 0, "j 0");
        due("two in each cycle", mill.step(1) + " " + mill.step(10), "2 20");
        LaneMill none = launched(1, 1, 1, 0, "a 0 0 0", "a 0 0 0", "j 2");
        due("none while all have delays", none.step(1) + " " + none.step(1) + " " + none.step(1), "1 0 1");
        due("nothing to do", new LaneMill().step(5), 0);
        LaneMill waits = launched(1, 8, 1, 0, "b", "* 0 0 0", "j 2");
        due("one waits, the other one can", waits.step(1) + " " + waits.step(1) + " " + waits.barriers(), "1 1 1");
        due("both have a delay then", waits.step(4) + " " + waits.place(0, 0) + waits.place(0, 1), "4 22");
    }

    @Sentence(of = "A cycle", says = "By the order 'o', as at first, that is the one that came to the unit first, by 'y' the one "
        + "that came last")
    static void firstAndLastGroups() {
        String[] lines = {"k 0 1", "k 0 1", "k 0 1", "j 3"};
        LaneMill old = launched(1, 12, 1, 0, lines);
        old.step(4);
        due("as at first", places(old, 0), "3 0 0");
        LaneMill young = launched(1, 12, 1, 0, lines);
        due("the order before", young.setOrder('y'), 'o');
        young.step(4);
        due("by 'y'", places(young, 0), "0 0 3");
        LaneMill delayed = launched(1, 12, 1, 0, "* 0 0 0", "* 0 0 0", "* 0 0 0", "j 3");
        delayed.step(4);
        due("delays are left out, by 'o'", places(delayed, 0), "2 2 0");
        LaneMill last = launched(1, 12, 1, 0, "* 0 0 0", "* 0 0 0", "* 0 0 0", "j 3");
        last.setOrder('y');
        last.step(4);
        due("and by 'y'", places(last, 0), "0 2 2");
    }

    @Sentence(of = "A cycle", says = "by 'a' the next one behind the group that carried out an instruction in this unit last, in the "
        + "order in which they came, around")
    static void groupsByTurns() {
        LaneMill mill = launched(1, 12, 1, 0, "k 0 1", "k 0 1", "k 0 1", "j 3");
        mill.setOrder('a');
        mill.step(1);
        due("the first one at first", places(mill, 0), "1 0 0");
        mill.step(2);
        due("one behind the other", places(mill, 0), "1 1 1");
        mill.step(1);
        due("around", places(mill, 0), "2 1 1");
        mill.setOrder('y');
        mill.step(1);
        due("'y' between them", places(mill, 0), "2 1 2");
        mill.setOrder('a');
        mill.step(1);
        due("behind the one of 'y'", places(mill, 0), "3 1 2");
        LaneMill one = launched(1, 1, 1, 0, "k 0 1", "k 0 1", "j 2");
        one.setOrder('a');
        due("one group is behind itself", one.step(3) + " " + one.place(0, 0), "3 2");
    }

    @Sentence(of = "A cycle", says = "by 'a' the next one behind the group that carried out an instruction in this unit last, in the "
        + "order in which they came, around")
    static void groupsByTurnsThatCanDoNothingAreLeftOut() {
        LaneMill mill = launched(1, 12, 1, 0, "* 0 0 0", "* 0 0 0", "* 0 0 0", "j 3");
        mill.setOrder('o');
        mill.step(2);
        mill.setOrder('a');
        due("three groups", mill.step(1) + " " + places(mill, 0), "1 1 1 1");
        due("around", mill.step(1) + " " + places(mill, 0), "1 2 1 1");
        LaneMill waits = launched(1, 12, 1, 0, "b", "k 0 1", "j 2");
        waits.step(2);
        waits.setOrder('a');
        due("those that wait are left out", waits.step(1) + " " + places(waits, 0), "1 1 1 1");
        waits.step(1);
        due("around", places(waits, 0), "2 1 1");
    }

    @Sentence(of = "A cycle", says = "the first one, if that group has left")
    static void theFirstOneIfThatGroupHasLeft() {
        // In the unit 0 are the blocks 0 and 2 of the launch 0, and the block 0 of the launch 1, which ends.
        LaneMill mill = new LaneMill();
        kernel(mill, 1, 0, "k 0 1", "k 0 1", "k 0 1", "j 3");
        kernel(mill, 1, 0, "k 0 1");
        mill.launch(0, 0, 4, 1, -1);
        mill.launch(1, 1, 1, 1, -1);
        mill.setOrder('o');
        mill.step(1);
        due("the first one has begun", threads(mill, 0) + " / " + places(mill, 0), "0 200 1000 / 1 0 0");
        mill.setOrder('y');
        mill.step(1);
        due("the last one has left", threads(mill, 0) + " / " + places(mill, 0), "0 200 / 1 0");
        mill.setOrder('a');
        mill.step(1);
        due("the first one", places(mill, 0), "2 0");
        mill.step(1);
        due("and the next one", places(mill, 0), "2 1");
    }

    @Sentence(of = "A cycle", says = "the first one, if that group has left")
    static void theFirstOneIfAGroupBetweenOthersHasLeft() {
        // The block 2 ends in the cycle 13; its group is the second of three in the unit 0.
        LaneMill mill = launched(6, 1, 2, 0, "n 0", "k 1 2", "= 0 0 1", "z 0 5", "e", "k 0 0", "k 0 0", "j 7");
        mill.setOrder('a');
        mill.step(13);
        due("ahead of it", threads(mill, 0) + " / " + places(mill, 0), "0 200 400 / 6 4 5");
        mill.step(1);
        due("it has left", threads(mill, 0) + " / " + places(mill, 0), "0 400 / 6 5");
        mill.step(1);
        due("the first one, once more", places(mill, 0), "7 5");
    }

    @Sentence(of = "A cycle", says = "the first one, if that group has left")
    static void theFirstOneIfThatGroupHasFailed() {
        LaneMill mill = new LaneMill();
        kernel(mill, 1, 0, "k 0 1", "k 0 1", "k 0 1", "j 3");
        kernel(mill, 1, 0, "R 0 0");
        mill.launch(0, 0, 4, 1, -1);
        mill.launch(1, 1, 1, 1, -1);
        mill.step(1);
        mill.setOrder('y');
        mill.step(1);
        due("the last one has failed", threads(mill, 0) + " / " + places(mill, 0) + " " + states(mill), "0 200 / 1 0 rf");
        mill.setOrder('a');
        mill.step(1);
        due("the first one", places(mill, 0), "2 0");
    }

    @Sentence(of = "A cycle", says = "The groups of a block come in the order of their numbers, and leave when their block has ended.")
    static void groupsComeAndLeaveWithTheirBlock() {
        LaneMill mill = new LaneMill();
        kernel(mill, 1, 0, "k 0 1");
        kernel(mill, 1, 0, "j 0");
        mill.launch(0, 0, 2, 8, -1);
        mill.launch(1, 1, 2, 8, -1);
        mill.step(1);
        due("they came", threads(mill, 0) + " / " + threads(mill, 1), "0 4 1000 1004 / 100 104 1100 1104");
        due("the first ones have ended", mill.reason(0, 0) + "" + mill.reason(1, 0), "ee");
        mill.step(1);
        due("all of the block leave", threads(mill, 0) + " / " + threads(mill, 1), "1000 1004 / 1100 1104");
    }

    @Sentence(of = "A cycle", says = "Sixth, the cycle increases by 1.")
    static void cyclesAreCounted() {
        LaneMill mill = withKernels();
        mill.step(100);
        due("without launches", mill.cycle(), 100);
        launch(mill, 0, STAYS, -1);
        mill.run(500);
        due("with one", mill.cycle(), 600);
        LaneMill fault = withKernels();
        launch(fault, 0, FAILS, -1);
        fault.step(2);
        due("with a fault", fault.cycle(), 2);
    }

    // ---- Races: accesses by two threads of a block, or by the first threads of two blocks, of cell 15

    private static LaneMill pair(boolean isOfBlocks, int one, String first, int other, String second, String between) {
        LaneMill mill = launched(isOfBlocks ? 6 : 1, isOfBlocks ? 1 : 16, 4, 16, isOfBlocks ? "n 0" : "t 0", "k 1 15",
            "k 2 " + one, "= 2 0 2", "z 2 6", first, between, "k 2 " + other, "= 2 0 2", "z 2 11", second);
        mill.run(500);
        due("done", mill.state(0), 'd');
        return mill;
    }

    private static boolean isPairRacing(boolean isOfBlocks, int one, String first, int other, String second, String between) {
        LaneMill mill = pair(isOfBlocks, one, first, other, second, between);
        boolean isRacing = mill.races(0) > 0;
        boolean isShared = "RW".indexOf(first.charAt(0)) >= 0;
        due("which cell", racingCells(mill, 0), !isRacing ? "/0" : isShared ? "/1" : ",15/1");
        return isRacing;
    }

    private static final String[] GLOBAL = {"r 3 1", "w 1 0", "a 3 1 0", "x 3 1 0"};
    private static final String[] SHARED = {"R 3 1", "W 1 0"};

    @Sentence(of = "Races", says = "A thread of a launch that carries out 'r', 'w', 'a' or 'x' accesses a global cell, one that "
        + "carries out 'R' or 'W' a shared cell of its block.")
    static void eachLetterAccessesItsCell() {
        for (String letter : GLOBAL) {
            due("with 'w' " + letter, isPairRacing(false, 1, letter, 2, "w 1 0", "f"), true);
            due("with 'W' " + letter, isPairRacing(false, 1, letter, 2, "W 1 0", "f"), false);
        }
        for (String letter : SHARED) {
            due("with 'W' " + letter, isPairRacing(false, 1, letter, 2, "W 1 0", "f"), true);
            due("with 'w' " + letter, isPairRacing(false, 1, letter, 2, "w 1 0", "f"), false);
        }
        LaneMill none = launched(1, 4, 2, 1, "k 0 0", "+ 0 0 1", "v 0 0", "s 0 0 1", "f", "c 0 3 1", "b", "w 0 0");
        none.run(99);
        due("no other letter", racingCells(none, 0), ",0/1");
    }

    @Sentence(of = "Races", says = "Two accesses of the same cell by different threads of the same launch race if at least one of "
        + "them is a 'w' or 'W'")
    static void oneOfThemIsAWrite() {
        for (boolean isOfBlocks : new boolean[] {false, true}) {
            for (String first : GLOBAL) {
                for (String second : GLOBAL) {
                    boolean isWrite = first.startsWith("w") || second.startsWith("w");
                    due(first + " and " + second, isPairRacing(isOfBlocks, 1, first, 4, second, "f"), isWrite);
                }
            }
        }
        for (String first : SHARED) {
            for (String second : SHARED) {
                boolean isWrite = first.startsWith("W") || second.startsWith("W");
                due(first + " and " + second, isPairRacing(false, 1, first, 4, second, "f"), isWrite);
            }
        }
    }

    @Sentence(of = "Races", says = "Two accesses of the same cell by different threads of the same launch race")
    static void theThreadsAreDifferent() {
        for (int[] pair : new int[][] {{0, 15}, {15, 0}, {14, 15}, {0, 1}, {15, 15}, {0, 0}, {7, 7}}) {
            for (String first : new String[] {"r 3 1", "w 1 0"}) {
                due(first + " of " + pair[0] + ", w of " + pair[1], isPairRacing(false, pair[0], first, pair[1], "w 1 0", "f"),
                    pair[0] != pair[1]);
                due("w of " + pair[1] + ", " + first + " of " + pair[0], isPairRacing(false, pair[1], "w 1 0", pair[0], first,
                    "f"), pair[0] != pair[1]);
            }
            due("W of " + pair[0] + ", R of " + pair[1], isPairRacing(false, pair[0], "W 1 0", pair[1], "R 3 1", "f"),
                pair[0] != pair[1]);
        }
    }

    @Sentence(of = "Races", says = "Two accesses of the same cell by different threads of the same launch race")
    static void threadsOfTwoBlocksAreDifferent() {
        for (int[] pair : new int[][] {{0, 5}, {5, 0}, {4, 5}, {0, 0}, {5, 5}}) {
            due("r of " + pair[0] + ", w of " + pair[1], isPairRacing(true, pair[0], "r 3 1", pair[1], "w 1 0", "f"),
                pair[0] != pair[1]);
            due("w of " + pair[0] + ", a of " + pair[1], isPairRacing(true, pair[0], "w 1 0", pair[1], "a 3 1 0", "f"),
                pair[0] != pair[1]);
        }
    }

    @Sentence(of = "Races", says = "Two accesses of the same cell by different threads of the same launch race")
    static void launchesDoNotRaceWithEachOther() {
        LaneMill mill = new LaneMill();
        kernel(mill, 1, 0, "w 0 0", "k 0 1", "c 0 1 0");
        kernel(mill, 1, 0, "w 0 0");
        launch(mill, 0, 0, -1);
        launch(mill, 1, 1, -1);
        mill.copy(1, 1, 0, 1, -1);
        mill.run(99);
        due("all are done", states(mill), "dddd");
        for (int i = 0; i < 4; i++) {
            due("launch " + i, racingCells(mill, i), "/0");
        }
    }

    @Sentence(of = "Races", says = "Two accesses of the same cell by different threads of the same launch race")
    static void otherCellsDoNotRace() {
        for (int base : new int[] {0, 60}) {
            LaneMill mill = launched(1, 4, 2, 0, "t 0", "k 1 " + base, "+ 0 0 1", "w 0 0", "r 1 0", "w 0 1");
            mill.run(99);
            due("each thread has its own from " + base, racingCells(mill, 0), "/0");
        }
        LaneMill ends = launched(1, 2, 2, 0, "w 0 0", "k 0 63", "w 0 0");
        ends.run(99);
        due("the first and the last cell", racingCells(ends, 0), ",0,63/2");
    }

    @Sentence(of = "Races", says = "unless both threads are of the same block, and this block has passed a barrier between them")
    static void aBarrierBetweenThem() {
        due("w, barrier, r", isPairRacing(false, 1, "w 1 0", 9, "r 3 1", "b"), false);
        due("r, barrier, w", isPairRacing(false, 9, "r 3 1", 1, "w 1 0", "b"), false);
        due("w, barrier, w", isPairRacing(false, 0, "w 1 0", 15, "w 1 0", "b"), false);
        due("W, barrier, R", isPairRacing(false, 1, "W 1 0", 9, "R 3 1", "b"), false);
        due("R, barrier, W", isPairRacing(false, 0, "R 3 1", 15, "W 1 0", "b"), false);
        due("W, barrier, W", isPairRacing(false, 15, "W 1 0", 0, "W 1 0", "b"), false);
        due("of two blocks", isPairRacing(true, 1, "w 1 0", 2, "r 3 1", "b"), true);
        due("of two blocks, 'r' first", isPairRacing(true, 1, "r 3 1", 2, "w 1 0", "b"), true);
    }

    @Sentence(of = "Races", says = "unless both threads are of the same block, and this block has passed a barrier between them")
    static void aBarrierOfAnotherBlock() {
        // The block 1 passes a barrier between the accesses of the threads of the block 0.
        LaneMill mill = launched(2, 2, 2, 2, "n 0", "z 0 4", "b", "e", "w 1 1", "W 1 1", "k 0 1", "r 0 1", "R 0 1");
        mill.run(99);
        due("race", racingCells(mill, 0) + " " + mill.barriers(), ",0/2 1");
        LaneMill behind = launched(1, 2, 2, 0, "b", "w 1 1", "b");
        behind.run(99);
        due("barriers ahead and behind", racingCells(behind, 0), ",0/1");
        LaneMill again = launched(1, 2, 2, 0, "w 0 0", "b", "k 0 1", "w 0 0", "b", "r 0 1", "w 0 0");
        again.run(99);
        due("anew behind each barrier", racingCells(again, 0), ",0,1/2");
    }

    @Sentence(of = "Races", says = "Accesses of shared cells of different blocks never race.")
    static void sharedCellsOfDifferentBlocks() {
        due("W and W", isPairRacing(true, 0, "W 1 0", 1, "W 1 0", "f"), false);
        due("W and R", isPairRacing(true, 4, "W 1 0", 5, "R 3 1", "f"), false);
        LaneMill mill = launched(6, 1, 1, 1, "W 0 0", "R 0 0", "W 0 0");
        mill.run(99);
        due("six blocks", racingCells(mill, 0), "/0");
    }
}
