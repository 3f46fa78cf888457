/** The boundary cases that 'Terms' names for writes and reads, barriers, faults and delays. */
public final class TermsOfWritesTest extends Checks {
    public static void main(String[] args) {
        Sentences.run(TermsOfWritesTest.class);
    }

    // ---- Writes and reads: 'f' stands ahead of many a 'w', so that it comes in the cycle 3, and the
    // ---- cycle 4 behind it ends without a write from a buffer.

    @Sentence(of = "Writes and reads", says = "A group has a buffer for at most 4 writes.")
    static void fourWritesWait() {
        LaneMill mill = launched(1, 4, 1, 0, "t 0", "f", "f", "w 0 0", "j 4");
        for (int cell = 0; cell < 4; cell++) {
            mill.poke(cell, 9);
        }
        mill.step(3);
        due("none yet", mill.buffered(0, 0), 0);
        mill.step(1);
        due("four", mill.buffered(0, 0) + " / " + cells(mill, 0, 3), "4 / 9 9 9 9");
    }

    @Sentence(of = "Writes and reads", says = "A lane that carries out 'w' puts its write behind those in the buffer; if there "
        + "are 4, the first one is written to the global memory ahead of that.")
    static void theFourthWritePushesOutNone() {
        LaneMill mill = launched(1, 2, 2, 0, "t 0", "k 1 20", "f", "w 0 0", "w 1 0", "j 5");
        mill.poke(0, 9);
        mill.step(5);
        due("four", mill.buffered(0, 0) + " / " + mill.peek(0) + " " + mill.peek(1) + " " + mill.peek(20), "4 / 9 0 0");
    }

    @Sentence(of = "Writes and reads", says = "A lane that carries out 'w' puts its write behind those in the buffer; if there "
        + "are 4, the first one is written to the global memory ahead of that.")
    static void theFifthWritePushesOutTheFirst() {
        LaneMill mill = launched(1, 3, 2, 0, "t 0", "k 1 20", "f", "w 0 0", "w 1 0", "j 5");
        for (int cell : new int[] {0, 1, 2, 20}) {
            mill.poke(cell, 9);
        }
        mill.step(4);
        due("three", mill.buffered(0, 0) + " / " + cells(mill, 0, 2), "3 / 9 9 9");
        mill.step(1);
        due("two of six are pushed out", mill.buffered(0, 0) + " / " + cells(mill, 0, 2) + " " + mill.peek(20),
            "4 / 0 1 9 9");
        mill.step(1);
        due("the next one is that of the lane 2", mill.buffered(0, 0) + " / " + cells(mill, 0, 2), "3 / 0 1 2");
    }

    @Sentence(of = "Writes and reads", says = "A lane that carries out 'r' gets what the last write in the buffer of its group "
        + "to this cell tells, if there is one, and otherwise what is in the global memory.")
    static void theLastOfSeveralWritesIsRead() {
        LaneMill mill = launched(1, 3, 3, 0, "t 0", "k 1 20", "f", "w 1 0", "r 2 1", "j 5");
        mill.poke(20, 7);
        mill.step(5);
        due("r", registers(mill, 2, 3) + " / " + mill.peek(20), "2 2 2 / 7");
    }

    @Sentence(of = "Writes and reads", says = "A lane that carries out 'r' gets what the last write in the buffer of its group "
        + "to this cell tells, if there is one, and otherwise what is in the global memory.")
    static void eachOfFourWritesIsRead() {
        LaneMill mill = launched(1, 4, 2, 0, "t 0", "f", "f", "w 0 0", "r 1 0", "j 5");
        for (int cell = 0; cell < 4; cell++) {
            mill.poke(cell, 9);
        }
        mill.step(5);
        due("r", registers(mill, 1, 4), "0 1 2 3");
    }

    @Sentence(of = "Writes and reads", says = "A lane that carries out 'r' gets what the last write in the buffer of its group "
        + "to this cell tells, if there is one, and otherwise what is in the global memory.")
    static void otherCellsAreReadFromTheMemory() {
        LaneMill mill = launched(1, 1, 3, 0, "f", "k 0 20", "f", "w 0 1", "k 0 21", "r 2 0", "j 6");
        mill.poke(21, 5);
        mill.step(6);
        due("r of a cell without a write", mill.register(0, 0, 0, 2), 5);
        LaneMill empty = launched(1, 1, 3, 0, "r 2 0", "j 1");
        empty.poke(0, 6);
        empty.step(1);
        due("r with an empty buffer", empty.register(0, 0, 0, 2), 6);
    }

    @Sentence(of = "Writes and reads", says = "A lane that carries out 'r' gets what the last write in the buffer of its group "
        + "to this cell tells, if there is one, and otherwise what is in the global memory.")
    static void writesThatHaveLeftTheBufferAreNotReadFromIt() {
        LaneMill mill = launched(1, 1, 2, 0, "k 0 20", "w 0 0", "k 0 20", "r 1 0", "j 4");
        mill.step(2);
        due("buffered", mill.buffered(0, 0) + " " + mill.peek(20), "1 0");
        mill.step(1);
        due("written", mill.buffered(0, 0) + " " + mill.peek(20), "0 20");
        mill.poke(20, 3);
        mill.step(1);
        due("r", mill.register(0, 0, 0, 1), 3);
    }

    @Sentence(of = "Writes and reads", says = "A lane that carries out 'r' gets what the last write in the buffer of its group "
        + "to this cell tells, if there is one, and otherwise what is in the global memory.")
    static void writesOfAnotherGroupAreNotRead() {
        // The group 0 writes cell 20 in the cycle 5, the group 1 reads it in the cycle 11.
        LaneMill mill = launched(1, 5, 3, 0, "t 0", "k 1 4", "= 0 0 1", "k 1 20", "z 0 7", "r 2 1", "j 6", "w 1 1", "j 8");
        mill.step(6);
        mill.setOrder('y');
        mill.step(5);
        mill.poke(20, 7);
        due("the group 0 holds two writes", mill.buffered(0, 0) + " " + mill.place(0, 1), "2 5");
        mill.step(1);
        due("r of the group 1", mill.register(0, 1, 0, 2), 7);
        LaneMill two = launched(2, 1, 3, 0, "k 1 20", "n 0", "f", "z 0 6", "r 2 1", "j 5", "w 1 1", "j 7");
        two.poke(20, 7);
        two.step(5);
        due("the unit 0 holds a write", two.buffered(0, 0) + " " + two.register(1, 0, 0, 2), "1 7");
    }

    @Sentence(of = "Writes and reads", says = "All writes of a buffer are written, in their order: ahead of 'a' and 'x', ahead "
        + "of the first lane")
    static void allWritesComeAheadOfAAndX() {
        LaneMill add = launched(1, 3, 3, 0, "t 0", "k 1 20", "f", "w 1 0", "a 2 1 0", "j 5");
        add.poke(20, 50);
        add.step(5);
        due("a", registers(add, 2, 3) + " / " + add.peek(20) + " " + add.buffered(0, 0), "2 2 3 / 5 0");
        LaneMill exchange = launched(1, 3, 3, 0, "t 0", "k 1 20", "f", "w 1 0", "x 2 1 0", "j 5");
        exchange.poke(20, 50);
        exchange.step(5);
        due("x", registers(exchange, 2, 3) + " / " + exchange.peek(20) + " " + exchange.buffered(0, 0), "2 0 1 / 2 0");
        LaneMill full = launched(1, 4, 2, 0, "t 0", "k 1 30", "f", "w 0 0", "a 1 1 1", "j 5");
        full.poke(0, 9);
        full.step(5);
        due("all four", full.buffered(0, 0) + " / " + cells(full, 0, 3), "0 / 0 1 2 3");
    }

    @Sentence(of = "Writes and reads", says = "ahead of 'a' and 'x', ahead of the first lane")
    static void allWritesComeAheadOfAFaultOfAAndX() {
        for (String letter : new String[] {"a 1 1 0", "x 1 1 0"}) {
            LaneMill mill = launched(1, 2, 2, 0, "t 0", "k 1 64", "f", "w 0 0", letter);
            mill.poke(0, 9);
            mill.step(5);
            due(letter, mill.fault(0) + " " + mill.faultAt(0) + " / " + cells(mill, 0, 1), "g 4 / 0 1");
        }
    }

    @Sentence(of = "Writes and reads", says = "at 'b' and 'f'")
    static void allWritesAreWrittenAtBAndF() {
        LaneMill wait = launched(1, 8, 2, 0, "t 0", "k 1 20", "f", "w 1 0", "b", "j 5");
        wait.step(5);
        due("b", wait.reason(0, 0) + " " + wait.buffered(0, 0) + " " + wait.peek(20), "b 0 3");
        LaneMill fence = launched(1, 4, 2, 0, "t 0", "k 1 20", "f", "w 1 0", "f", "j 5");
        fence.step(5);
        due("f", fence.buffered(0, 0) + " " + fence.peek(20), "0 3");
        LaneMill empty = launched(1, 1, 1, 0, "f", "b", "f", "j 3");
        empty.poke(0, 9);
        due("with nothing in the buffer", empty.step(3) + " " + empty.peek(0) + " " + empty.buffered(0, 0), "3 9 0");
        LaneMill other = launched(1, 8, 2, 0, "t 0", "k 1 20", "f", "w 1 0", "f", "j 5");
        other.setOrder('a');
        other.step(9);
        due("the group 0 alone", other.place(0, 0) + " " + other.place(0, 1) + " " + other.buffered(0, 0) + " "
            + other.buffered(0, 1) + " " + other.peek(20), "5 4 0 3 4");
    }

    @Sentence(of = "Writes and reads", says = "at 'b' and 'f'")
    static void oneLaneAtBIsEnough() {
        LaneMill apart = launched(1, 2, 1, 0, "l 0", "z 0 3", "j 3", "w 0 0", "z 0 6", "j 7", "b", "j 7");
        apart.poke(0, 9);
        apart.step(7);
        due("the lane 0 waits, the lane 1 does not", apart.mask(0, 0) + " " + apart.buffered(0, 0) + " "
            + cells(apart, 0, 1), "2 0 0 1");
    }

    @Sentence(of = "Writes and reads", says = "and when the last thread of the group ends")
    static void allWritesAreWrittenWhenTheLastThreadEnds() {
        for (String end : new String[] {"e", "j 9", "z 1 9", "k 1 1"}) {
            LaneMill mill = launched(1, 5, 2, 0, "t 0", "f", "f", "w 0 0", end);
            mill.poke(0, 9);
            mill.step(4);
            due("ahead of " + end, mill.buffered(0, 0) + " " + mill.peek(0), "4 9");
            mill.step(1);
            due("behind " + end, mill.buffered(0, 0) + " / " + cells(mill, 0, 3), "0 / 0 1 2 3");
            due("it has ended", mill.reason(0, 0), 'e');
        }
        LaneMill last = launched(1, 5, 1, 0, "t 0", "f", "f", "w 0 0");
        last.step(4);
        due("'w' itself may be the last", last.reason(0, 0) + " " + last.buffered(0, 0) + " / " + cells(last, 0, 3),
            "e 0 / 0 1 2 3");
    }

    @Sentence(of = "Writes and reads", says = "and when the last thread of the group ends")
    static void noWriteIsWrittenWhenAnotherThreadEnds() {
        LaneMill mill = launched(1, 4, 1, 0, "l 0", "z 0 3", "j 3", "w 0 0", "z 0 6", "j 5");
        // In the cycle 3 all write, in the cycle 4 the lane 0 ends.
        mill.poke(0, 9);
        mill.step(5);
        due("three go on", mill.mask(0, 0) + " " + mill.buffered(0, 0) + " " + mill.peek(0), "14 4 9");
    }

    @Sentence(of = "Writes and reads", says = "and when the last thread of the group ends")
    static void writesOfAGroupWhoseLastThreadEndsAtABarrier() {
        LaneMill mill = launched(1, 2, 1, 0, "l 0", "z 0 5", "f", "w 0 0", "e", "b");
        // The lane 1 ends in the cycle 4, the lane 0 comes to the barrier in the cycle 5, and passes.
        mill.poke(1, 9);
        due("run", mill.run(9) + " " + mill.state(0) + " " + mill.peek(1) + " " + mill.barriers(), "6 d 1 1");
    }

    @Sentence(of = "Writes and reads", says = "All writes of a buffer are written, in their order: ahead of 'a' and 'x', ahead of "
        + "the first lane; at 'b' and 'f'; and when the last thread of the group ends.")
    static void aBarrierThatIsPassedByAnEndWritesNone() {
        LaneMill mill = launched(1, 2, 1, 0, "f", "f", "l 0", "z 0 5", "j 7", "b", "j 6", "w 0 0", "e");
        // The lane 0 waits in the cycle 5; the lane 1 writes the cell 1 in the cycle 6, and lets it pass by its end.
        mill.poke(1, 9);
        mill.step(7);
        due("a write", mill.barriers() + " " + mill.buffered(0, 0) + " " + mill.peek(1), "0 1 9");
        mill.step(1);
        due("it waits on", mill.barriers() + " " + mill.mask(0, 0) + " " + mill.buffered(0, 0) + " " + mill.peek(1),
            "1 1 1 9");
        mill.step(1);
        due("until the third cycle", mill.buffered(0, 0) + " " + mill.peek(1), "0 1");
    }

    @Sentence(of = "Writes and reads", says = "At the end of each cycle whose number, ahead of its increase, has the remainder "
        + "2 when it is divided by 3, the first write of each buffer is written")
    static void theFirstWritesAreWrittenInEachThirdCycle() {
        LaneMill mill = launched(1, 4, 1, 0, "t 0", "w 0 0", "j 2");
        int[] counts = {0, 4, 3, 3, 3, 2, 2, 2, 1, 1, 1, 0, 0};
        for (int count : counts) {
            int number = mill.cycle();
            mill.step(1);
            due("behind the cycle " + number, mill.buffered(0, 0), count);
        }
        LaneMill order = launched(1, 4, 1, 0, "t 0", "w 0 0", "j 2");
        for (int cell = 0; cell < 4; cell++) {
            order.poke(cell, 9);
        }
        order.step(6);
        due("the first ones first", cells(order, 0, 3), "0 1 9 9");
    }

    @Sentence(of = "Writes and reads", says = "the first write of each buffer is written, those of the unit 0 first")
    static void theUnit1WritesLast() {
        LaneMill mill = launched(2, 1, 2, 0, "n 0", "k 1 9", "w 1 0", "j 3");
        mill.poke(9, 5);
        mill.step(2);
        due("ahead of it", mill.peek(9), 5);
        mill.step(1);
        due("both", mill.peek(9) + " " + mill.buffered(0, 0) + mill.buffered(1, 0), "1 00");
    }

    @Sentence(of = "Writes and reads", says = "in a unit in the order in which the groups came to it")
    static void groupsOfAUnitWriteInTheOrderInWhichTheyCame() {
        // The launch 2 comes to the unit 0 behind the launch 0, and the launch 1 when that one has left.
        LaneMill mill = new LaneMill();
        kernel(mill, 1, 0, "k 0 1");
        kernel(mill, 2, 0, "k 0 9", "w 0 1", "j 2");
        kernel(mill, 2, 0, "k 0 9", "w 0 0", "j 2");
        mill.launch(0, 0, 1, 1, -1);
        mill.launch(0, 1, 1, 1, -1);
        mill.launch(1, 2, 2, 1, -1);
        mill.poke(9, 77);
        mill.setOrder('a');
        mill.step(5);
        due("in the unit 0", threads(mill, 0) + " / " + mill.buffered(0, 0) + mill.buffered(0, 1), "2100 1000 / 11");
        mill.step(1);
        due("the one that came last", mill.peek(9) + " / " + mill.buffered(0, 0) + mill.buffered(0, 1), "0 / 00");
    }

    // ---- Barriers

    @Sentence(of = "Barriers", says = "When all threads of a block that have not ended wait, and there is at least one, this is "
        + "looked at at once")
    static void oneThreadPassesAtOnce() {
        LaneMill mill = launched(1, 1, 1, 0, "b", "j 1");
        mill.step(1);
        due("passed", mill.barriers() + " " + mill.place(0, 0) + " " + mill.reason(0, 0), "1 1 -");
    }

    @Sentence(of = "Barriers", says = "When all threads of a block that have not ended wait, and there is at least one, this is "
        + "looked at at once")
    static void allButOneWait() {
        LaneMill mill = launched(1, 16, 1, 0, "b", "j 1");
        mill.step(3);
        due("three groups wait", mill.barriers() + " " + places(mill, 0), "0 - - - 0");
        mill.step(1);
        due("all pass", mill.barriers() + " " + places(mill, 0), "1 1 1 1 1");
    }

    @Sentence(of = "Barriers", says = "When all threads of a block that have not ended wait, and there is at least one, this is "
        + "looked at at once")
    static void theLastThreadThatEndsLetsTheOthersPass() {
        for (String end : new String[] {"e", "j 9", "z 1 9"}) {
            LaneMill mill = launched(1, 5, 2, 0, "l 0", "z 0 4", "b", "j 3", end, "j 5");
            // The lanes 0 of both groups end; those of the group 0 wait from the cycle 3 on.
            mill.step(3);
            due("the lanes 1 to 3 wait", mill.barriers() + " " + mill.place(0, 0) + " " + mill.mask(0, 0), "0 4 1");
            mill.step(3);
            due("one is left", mill.barriers() + " " + mill.reason(0, 0) + " " + mill.place(0, 1), "0 b 4");
            mill.step(1);
            due("passed as it ends by " + end, mill.barriers() + " " + mill.mask(0, 0) + " " + mill.place(0, 0) + " "
                + mill.reason(0, 1), "1 14 3 e");
        }
    }

    @Sentence(of = "Barriers", says = "When all threads of a block that have not ended wait, and there is at least one, this is "
        + "looked at at once")
    static void aBlockWhoseThreadsHaveAllEndedPassesNone() {
        LaneMill mill = launched(2, 4, 1, 0, "e");
        mill.run(9);
        due("none", mill.state(0) + " " + mill.barriers(), "d 0");
    }

    @Sentence(of = "Barriers", says = "if they wait at the same place, their places become the next number, they run again, and "
        + "the block has passed a barrier")
    static void blocksPassEachForItself() {
        LaneMill mill = launched(2, 1, 2, 0, "n 0", "z 0 3", "b", "b", "j 4");
        mill.step(3);
        due("the block 0 passes at 3, the block 1 at 2", mill.barriers() + " " + mill.place(0, 0) + " " + mill.place(1, 0),
            "2 4 3");
        mill.step(1);
        due("one more", mill.barriers() + " " + mill.place(1, 0), "3 4");
    }

    @Sentence(of = "Barriers", says = "if they wait at the same place, their places become the next number, they run again, and "
        + "the block has passed a barrier")
    static void theNextNumberMayBeNoInstruction() {
        LaneMill mill = launched(1, 8, 1, 0, "k 0 1", "b");
        due("run", mill.run(99) + " " + mill.state(0) + " " + mill.barriers() + " / " + groups(mill), "4 d 1 / 0 0");
    }

    @Sentence(of = "Barriers", says = "otherwise, this is a fault of the thread with the lowest number of all that wait")
    static void threadsThatWaitAtDifferentPlaces() {
        LaneMill mill = launched(1, 2, 1, 0, "l 0", "z 0 3", "b", "b");
        mill.step(3);
        due("the lane 0 does not wait yet", mill.state(0), 'r');
        mill.step(1);
        due("fault", mill.state(0) + " " + mill.fault(0) + " " + mill.faultAt(0) + " " + mill.barriers(), "f b 3 0");
    }

    @Sentence(of = "Barriers", says = "otherwise, this is a fault of the thread with the lowest number of all that wait")
    static void lowerThreadsThatHaveEndedDoNotWait() {
        // The threads 0 to 4 end, 5 waits at 9, 6 and 7 wait at 7, in the block 1.
        LaneMill mill = launched(2, 8, 3, 0, "n 0", "z 0 10", "t 0", "k 1 5", "< 2 0 1", "= 1 0 1", "z 2 8", "e", "z 1 11",
            "b", "e", "b");
        mill.run(99);
        due("fault", mill.state(0) + " " + mill.fault(0) + " " + mill.faultAt(0), "f b 10509");
    }

    // ---- Faults

    @Sentence(of = "Faults", says = "There are the faults 'g', a global cell that is none")
    static void globalCellsThatAreNone() {
        for (String letter : new String[] {"r 1 0", "w 0 1", "a 1 0 1", "x 1 0 1"}) {
            for (int cell : new int[] {-1, 64, LEAST, GREATEST, 0, 63}) {
                LaneMill mill = launched(1, 1, 2, 1, "k 0 " + cell, letter);
                mill.run(9);
                boolean isNone = cell != 0 && cell != 63;
                due(letter + " of " + cell, mill.state(0), isNone ? 'f' : 'd');
                if (isNone) {
                    due(letter + " of " + cell, mill.fault(0) + " " + mill.faultAt(0), "g 1");
                }
            }
        }
    }

    @Sentence(of = "Faults", says = "'s', a shared cell that the kernel does not have")
    static void sharedCellsThatTheKernelDoesNotHave() {
        for (String letter : new String[] {"R 1 0", "W 0 1"}) {
            for (int cells : new int[] {0, 1, 16}) {
                for (int cell : new int[] {-1, cells - 1, cells, LEAST, GREATEST}) {
                    LaneMill mill = launched(1, 1, 2, cells, "k 0 " + cell, letter);
                    mill.run(9);
                    boolean isNone = cell != cells - 1 || cells == 0;
                    due(letter + " of " + cell + " of " + cells, mill.state(0), isNone ? 'f' : 'd');
                    if (isNone) {
                        due(letter + " of " + cell + " of " + cells, mill.fault(0) + " " + mill.faultAt(0), "s 1");
                    }
                }
            }
        }
    }

    /**
     * A machine that failed, as a lane names a cell that is none by the last instruction, and the lanes 0 to 3
     * name the cells 10 to 13, or the shared cells 0 to 3. The lanes have 5 in the register 2.
     */
    private static LaneMill failed(int lane, int base, String... last) {
        String[] lines = {"l 0", "k 1 " + lane, "= 1 0 1", "k 2 " + base, "+ 0 0 2", "z 1 7", "k 0 64", "k 2 5"};
        String[] all = new String[lines.length + last.length];
        System.arraycopy(lines, 0, all, 0, lines.length);
        System.arraycopy(last, 0, all, lines.length, last.length);
        LaneMill mill = launched(1, 4, 4, 16, all);
        mill.run(99);
        due("fault at", mill.faultAt(0), 100 * lane + 7 + last.length);
        return mill;
    }

    @Sentence(of = "Faults", says = "A lane that would have one does nothing, nor do those with higher numbers in this "
        + "instruction; lower ones have done it.")
    static void lanesBelowAFaultOfAAndX() {
        for (String letter : new String[] {"a 1 0 2", "x 1 0 2"}) {
            for (int lane = 0; lane < 4; lane++) {
                LaneMill mill = failed(lane, 10, letter);
                due(letter, cells(mill, 10, 13), new String[] {"0 0 0 0", "5 0 0 0", "5 5 0 0", "5 5 5 0"}[lane]);
                due("lanes", mill.lanes(), 29L + lane);
            }
        }
    }

    @Sentence(of = "Faults", says = "A lane that would have one does nothing, nor do those with higher numbers in this "
        + "instruction; lower ones have done it.")
    static void lanesBelowAFaultOfRAccess() {
        for (int lane = 0; lane < 4; lane++) {
            // Each lane writes the cell of another one: a lane that reads its own one races.
            String[] code = {"l 1", "k 3 13", "- 3 3 1", "w 3 2", "r 3 0"};
            LaneMill mill = failed(lane, 10, code);
            due("r", racingCells(mill, 0), new String[] {"/0", ",10/1", ",10,11/2", ",10,11,12/3"}[lane]);
            due("lanes", mill.lanes(), 29L + 16 + lane);
        }
    }

    @Sentence(of = "Faults", says = "A lane that would have one does nothing, nor do those with higher numbers in this "
        + "instruction; lower ones have done it.")
    static void lanesBelowAFaultOfWFillTheBuffer() {
        for (int lane = 0; lane < 4; lane++) {
            // Four writes are in the buffer, and as many leave it as lanes write.
            String[] code = {"l 1", "k 3 20", "+ 3 3 1", "f", "w 3 2", "w 0 2"};
            LaneMill mill = failed(lane, 10, code);
            due("w", cells(mill, 20, 23), new String[] {"0 0 0 0", "5 0 0 0", "5 5 0 0", "5 5 5 0"}[lane]);
            due("its own writes are lost", cells(mill, 10, 13), "0 0 0 0");
            due("accesses", mill.lanes(), 29L + 20 + lane);
        }
    }

    @Sentence(of = "Faults", says = "A lane that would have one does nothing, nor do those with higher numbers in this "
        + "instruction; lower ones have done it.")
    static void lanesBelowAFaultOfSharedCells() {
        for (int lane = 0; lane < 4; lane++) {
            String[] read = {"l 1", "k 3 3", "- 3 3 1", "W 3 2", "R 3 0"};
            LaneMill mill = failed(lane, 0, read);
            due("R", mill.fault(0) + " " + mill.races(0) + " " + mill.lanes(), "s " + lane + " " + (45 + lane));
            String[] write = {"l 1", "k 3 3", "- 3 3 1", "R 3 3", "l 1", "k 3 3", "- 3 3 1", "R 3 3", "W 0 2"};
            LaneMill other = failed(lane, 0, write);
            due("W", other.fault(0) + " " + other.races(0) + " " + other.lanes(), "s " + lane + " " + (61 + lane));
        }
    }

    @Sentence(of = "Faults", says = "With its first fault, a launch has failed: all of its blocks leave their units at once, "
        + "their buffers are lost, and no more of its blocks are given to units.")
    static void allBlocksOfAFailedLaunchLeave() {
        // The block 1 fails in the cycle 5, when the block 0 has four writes in a buffer.
        LaneMill mill = launched(6, 16, 2, 0, "t 0", "n 1", "z 1 6", "f", "k 0 -1", "r 1 0", "w 0 0", "j 7");
        mill.step(4);
        due("a buffer is full", mill.buffered(0, 0) + " / " + groups(mill), "4 / 4 4");
        mill.step(1);
        due("goes on", mill.state(0), 'r');
        mill.step(1);
        due("failed", mill.state(0) + " " + mill.faultAt(0) + " " + mill.given(0) + " / " + groups(mill), "f 10005 2 / 0 0");
        due("the buffer is lost", cells(mill, 0, 3), "0 0 0 0");
        due("nothing comes of it", mill.step(50) + " " + mill.given(0) + " / " + groups(mill) + " / " + cells(mill, 0, 3),
            "0 2 / 0 0 / 0 0 0 0");
    }

    @Sentence(of = "Faults", says = "With its first fault, a launch has failed: all of its blocks leave their units at once, "
        + "their buffers are lost, and no more of its blocks are given to units.")
    static void theUnit1DoesNothingBehindAFaultInTheUnit0() {
        LaneMill mill = launched(2, 1, 1, 0, "k 0 64", "w 0 0");
        due("instructions", mill.step(1) + " " + mill.step(1), "2 1");
        due("the fault of the block 0", mill.fault(0) + " " + mill.faultAt(0) + " " + mill.lanes(), "g 1 2");
    }

    @Sentence(of = "Faults", says = "With its first fault, a launch has failed: all of its blocks leave their units at once, "
        + "their buffers are lost, and no more of its blocks are given to units.")
    static void otherLaunchesStayInTheirUnits() {
        LaneMill mill = new LaneMill();
        kernel(mill, 1, 0, "k 0 64", "r 0 0");
        kernel(mill, 1, 0, "f", "f", "f", "w 0 0", "j 4");
        mill.launch(0, 0, 4, 1, -1);
        mill.launch(1, 1, 4, 1, -1);
        mill.step(2);
        due("four are left", states(mill) + " / " + threads(mill, 0) + " / " + threads(mill, 1), "fr / 1000 1200 / 1100 1300");
        mill.poke(0, 9);
        mill.step(4);
        due("their buffers too", mill.buffered(0, 0) + mill.buffered(1, 0), 0);
        due("a write", mill.peek(0), 0);
    }

    @Sentence(of = "Faults", says = "Children that it launched go on.")
    static void childrenOfAFailedLaunchGoOn() {
        LaneMill mill = new LaneMill();
        kernel(mill, 1, 0, "k 0 1", "c 0 1 0", "k 0 64", "r 0 0");
        kernel(mill, 1, 0, "k 0 7", "w 0 0", "k 0 7", "k 0 7", "k 0 7", "k 0 7");
        mill.launch(0, 0, 1, 1, -1);
        mill.step(7);
        due("the child runs", states(mill) + " / " + groups(mill), "fr / 0 1");
        due("to its end", mill.run(99) + " " + states(mill) + " " + mill.peek(7), "1 fd 7");
    }

    @Sentence(of = "Faults", says = "Children that it launched go on.")
    static void aQueuedChildOfAFailedLaunchRuns() {
        // Two blocks: that of the unit 0 launches the child, and in the same cycle that of the unit 1 fails.
        LaneMill mill = new LaneMill();
        kernel(mill, 2, 0, "n 0", "k 1 1", "z 0 5", "k 0 64", "r 0 0", "f", "c 0 1 1");
        kernel(mill, 1, 0, "k 0 7", "w 0 0");
        mill.launch(0, 0, 2, 1, -1);
        mill.step(5);
        due("queued", states(mill), "fq");
        due("it runs", mill.run(99) + " " + states(mill) + " " + mill.peek(7), "2 fd 7");
    }

    @Sentence(of = "Faults", says = "A fault of a barrier is found behind an instruction that was carried out without a fault.")
    static void theInstructionAheadOfAFaultOfABarrierCounts() {
        LaneMill mill = launched(1, 2, 1, 0, "l 0", "z 0 3", "b", "b");
        due("instructions", mill.step(9), 4);
        due("lanes", mill.lanes(), 6L);
        due("shares", mill.usedShare() + " " + mill.meanDelay(), "0.375 1.0");
        LaneMill end = launched(1, 3, 2, 0, "l 0", "k 1 2", "= 1 0 1", "z 1 5", "e", "z 0 7", "b", "b");
        end.run(99);
        due("others have ended", end.fault(0) + " " + end.faultAt(0), "b 7");
    }

    @Sentence(of = "Faults", says = "A fault of a barrier is found behind an instruction that was carried out without a fault.")
    static void writesComeAheadOfAFaultOfABarrier() {
        // The threads 0 to 3 wait at two places, then the threads 4 and 5 write, and end.
        LaneMill end = launched(1, 6, 2, 0, "t 0", "k 1 4", "< 1 0 1", "z 1 8", "l 1", "z 1 7", "b", "b", "f", "w 0 0", "e");
        end.run(99);
        due("by 'e'", end.fault(0) + " " + end.faultAt(0) + " / " + cells(end, 4, 5), "b 7 / 4 5");
        // The lane 0 waits at 5, the lane 1 writes, and waits at 4.
        LaneMill wait = launched(1, 2, 1, 0, "l 0", "z 0 5", "f", "w 0 0", "b", "b");
        wait.run(99);
        due("by 'b'", wait.fault(0) + " " + wait.faultAt(0) + " / " + cells(wait, 0, 1), "b 5 / 0 1");
    }

    // ---- Delays

    @Sentence(of = "Delays", says = "A group that carries out an instruction in a cycle can do so again as many cycles later as "
        + "its delay tells")
    static void groupsComeAgainBehindTheirDelay() {
        LaneMill mill = launched(1, 1, 1, 0, "* 0 0 0", "a 0 0 0", "k 0 1", "j 3");
        due("'*' in the cycle 0", mill.step(1) + " " + mill.reason(0, 0), "1 d");
        due("none in the cycle 1", mill.step(1) + " " + mill.reason(0, 0), "0 -");
        due("'a' in the cycle 2", mill.step(1) + " " + mill.reason(0, 0), "1 d");
        due("none in the cycle 3", mill.step(1) + " " + mill.reason(0, 0), "0 -");
        due("'k' in the cycle 4", mill.step(1) + " " + mill.reason(0, 0), "1 -");
        due("'j' in the cycle 5", mill.step(1) + " " + mill.place(0, 0), "1 3");
    }

    @Sentence(of = "Delays", says = "2 for '*'")
    static void delayOfProducts() {
        due("of one lane", delay(launched(1, 1, 1, 0, "* 0 0 0", "j 1")), 2);
        due("of four", delay(launched(1, 4, 1, 0, "* 0 0 0", "j 1")), 2);
    }

    /** Lets cycles come until the first group can carry out the instruction at a place. */
    private static void goTo(LaneMill mill, int place) {
        mill.step(1);
        for (int i = 0; i < 60 && (mill.reason(0, 0) == 'd' || mill.place(0, 0) != place); i++) {
            mill.step(1);
        }
    }

    /** The delay of an instruction whose lanes have four numbers in the register 0. */
    private static int delayOf(String letter, int... numbers) {
        LaneMill mill = new LaneMill();
        mill.addKernel(3, 16);
        mill.code(0, 'l', 1, 0, 0);
        for (int lane = 0; lane < numbers.length; lane++) {
            // Each lane whose number is this one takes its number.
            mill.code(0, 'k', 2, lane, 0);
            mill.code(0, '=', 2, 1, 2);
            mill.code(0, 'z', 2, 5 * lane + 6, 0);
            mill.code(0, 'k', 0, numbers[lane], 0);
            mill.code(0, 'f', 0, 0, 0);
        }
        mill.code(0, letter.charAt(0), letter.charAt(0) == 'W' ? 0 : 1, letter.charAt(0) == 'W' ? 1 : 0, 0);
        mill.code(0, 'j', 0, 5 * numbers.length + 2, 0);
        mill.launch(0, 0, 1, numbers.length, -1);
        int last = 5 * numbers.length + 1;
        goTo(mill, last);
        due("all lanes together", mill.mask(0, 0), (1 << numbers.length) - 1);
        return delay(mill);
    }

    @Sentence(of = "Delays", says = "for 'R' and 'W' the greatest number of different cells, of those that its lanes name, that "
        + "have the same remainder by 4")
    static void delaysOfSharedCells() {
        for (String letter : new String[] {"R", "W"}) {
            due(letter + " of one lane", delayOf(letter, 15), 1);
            due(letter + " of one cell", delayOf(letter, 5, 5, 5, 5), 1);
            due(letter + " of four remainders", delayOf(letter, 0, 1, 2, 3), 1);
            due(letter + " of four other ones", delayOf(letter, 12, 9, 6, 3), 1);
            due(letter + " of two by two", delayOf(letter, 0, 4, 1, 5), 2);
            due(letter + " of two, and one twice", delayOf(letter, 0, 4, 0, 4), 2);
            due(letter + " of neighbours", delayOf(letter, 0, 1, 5, 9), 3);
            due(letter + " of three", delayOf(letter, 3, 7, 11, 2), 3);
            due(letter + " of three, and one twice", delayOf(letter, 3, 7, 11, 3), 3);
            due(letter + " of four", delayOf(letter, 3, 15, 11, 7), 4);
        }
    }

    @Sentence(of = "Delays", says = "for 'r' 2 for each different line of the cells that its lanes name, whatever buffers tell, "
        + "and 4 more for each of them that the unit does not have, where the line of a cell is its number divided by 8, "
        + "rounded down")
    static void delaysOfLines() {
        due("one cell", delayOf("r", 0), 6);
        due("the last one", delayOf("r", 63), 6);
        due("0 and 7 are of one line", delayOf("r", 0, 7), 6);
        due("7 and 8 are not", delayOf("r", 7, 8), 12);
        due("56 and 63 are", delayOf("r", 56, 63, 60, 57), 6);
        due("55 and 56 are not", delayOf("r", 56, 55, 57, 54), 12);
        due("three lines", delayOf("r", 15, 16, 23, 24), 18);
        due("four lines", delayOf("r", 0, 8, 16, 24), 24);
        due("one line again behind another one", delayOf("r", 0, 16, 0, 16), 12);
    }

    @Sentence(of = "Delays", says = "of those that its lanes name")
    static void lanesThatAreNotUnderTheMaskNameNoCells() {
        // The lane 0 is at another place, with the number of a cell that the lane 1 names as well.
        LaneMill lines = launched(1, 4, 2, 0, "l 0", "z 0 4", "k 0 0", "r 1 0", "j 4");
        goTo(lines, 3);
        due("lanes 1 to 3", lines.mask(0, 0) + " " + delay(lines) + " " + lines.misses(), "14 6 1");
        for (String letter : new String[] {"R 1 0", "W 0 1"}) {
            LaneMill banks = launched(1, 4, 2, 16, "l 0", "z 0 7", "k 1 1", "- 0 0 1", "k 1 4", "* 0 0 1", letter, "j 7");
            goTo(banks, 6);
            due(letter, banks.mask(0, 0) + " / " + registers(banks, 0, 4) + " / " + delay(banks), "14 / 0 0 4 8 / 3");
        }
    }

    @Sentence(of = "Delays", says = "for 'r' 2 for each different line of the cells that its lanes name, whatever buffers tell")
    static void linesOfCellsInBuffersCount() {
        LaneMill mill = launched(1, 1, 2, 0, "w 0 0", "r 1 0", "r 1 0", "j 3");
        mill.step(1);
        due("buffered", mill.buffered(0, 0), 1);
        due("missing, and then not", delay(mill) + " " + delay(mill) + " " + mill.misses(), "6 2 1");
    }

    /** The delays of the instructions of one thread that reads cells one after the other, and the misses. */
    private static String readDelays(int... cells) {
        LaneMill mill = new LaneMill();
        mill.addKernel(2, 0);
        for (int cell : cells) {
            mill.code(0, 'k', 0, cell, 0);
            mill.code(0, 'r', 1, 0, 0);
        }
        mill.code(0, 'j', 0, 2 * cells.length, 0);
        mill.launch(0, 0, 1, 1, -1);
        StringBuilder text = new StringBuilder();
        for (int i = 0; i < cells.length; i++) {
            mill.step(1);
            text.append(delay(mill)).append(' ');
        }
        return text.append(mill.misses()).toString();
    }

    @Sentence(of = "Delays", says = "A unit has at most one line with an even number and one with an odd number, none at first: "
        + "those that 'r' named last in it")
    static void unitsHaveOneEvenAndOneOddLine() {
        due("none at first", readDelays(0, 8), "6 6 2");
        due("one even and one odd", readDelays(0, 8, 7, 15), "6 6 2 2 2");
        due("another even one", readDelays(0, 8, 16, 8, 0), "6 6 6 2 6 4");
        due("another odd one", readDelays(0, 8, 24, 0, 8), "6 6 6 2 6 4");
        due("the last lines", readDelays(48, 56, 48, 63, 55), "6 6 2 2 2 2");
    }

    @Sentence(of = "Delays", says = "A unit has at most one line with an even number and one with an odd number, none at first: "
        + "those that 'r' named last in it")
    static void linesStayInAUnitFromOneLaunchToAnother() {
        LaneMill mill = new LaneMill();
        kernel(mill, 1, 0, "r 0 0");
        mill.launch(0, 0, 1, 1, -1);
        mill.launch(0, 0, 2, 1, -1);
        mill.run(99);
        due("the unit 0 has it, the unit 1 does not", mill.misses() + " " + mill.meanDelay(), "2 " + 14.0 / 3.0);
    }

    @Sentence(of = "Delays", says = "A unit has at most one line with an even number and one with an odd number, none at first: "
        + "those that 'r' named last in it")
    static void otherLettersNameNoLines() {
        LaneMill mill = launched(1, 1, 2, 1, "w 0 0", "f", "a 1 0 1", "x 1 0 1", "R 1 0", "W 0 0", "r 1 0", "j 7");
        mill.step(9);
        due("at 'r'", mill.place(0, 0) + " " + mill.misses(), "6 0");
        due("missing", delay(mill) + " " + mill.misses(), "6 1");
    }

    @Sentence(of = "Delays", says = "the lines of an instruction are looked at by rising lanes, each one once")
    static void linesAreLookedAtByRisingLanes() {
        // The lanes 0 and 1 name the line 0, the lanes 2 and 3 the line 2, which takes its place.
        LaneMill mill = launched(1, 4, 3, 0, "l 0", "k 1 1", "< 1 1 0", "k 2 16", "* 1 1 2", "r 2 1", "k 1 16", "r 2 1",
            "k 1 0", "r 2 1", "j 10");
        goTo(mill, 5);
        due("lanes name", registers(mill, 1, 4), "0 0 16 16");
        due("two lines", delay(mill) + " " + mill.misses(), "12 2");
        mill.step(1);
        due("the unit has the line 2", delay(mill) + " " + mill.misses(), "2 2");
        mill.step(1);
        due("and not the line 0", delay(mill) + " " + mill.misses(), "6 3");
    }

    @Sentence(of = "Delays", says = "the lines of an instruction are looked at by rising lanes, each one once")
    static void aLineMayBeMissingBehindOneOfTheSameInstruction() {
        // The unit has the line 2; the lane 0 names the line 0, and then the lane 1 the line 2.
        LaneMill mill = launched(1, 2, 3, 0, "k 0 16", "r 2 0", "l 1", "* 0 0 1", "r 2 0", "r 2 0", "j 6");
        goTo(mill, 1);
        due("the line 2", delay(mill) + " " + mill.misses(), "6 1");
        goTo(mill, 4);
        due("lanes name", registers(mill, 0, 2), "0 16");
        due("both are missing as they are looked at", delay(mill) + " " + mill.misses(), "12 3");
        due("and once more", delay(mill) + " " + mill.misses(), "12 5");
    }

    @Sentence(of = "Delays", says = "the lines of an instruction are looked at by rising lanes, each one once")
    static void aLineThatIsNamedAgainDoesNotComeBack() {
        // The lanes 0 to 2 name the lines 0, 2 and 0: the line 2 is looked at last.
        LaneMill mill = launched(1, 3, 3, 0, "l 0", "k 1 1", "= 1 0 1", "k 2 16", "* 1 1 2", "r 2 1", "k 1 16", "r 2 1", "j 8");
        goTo(mill, 5);
        due("lanes name", registers(mill, 1, 3), "0 16 0");
        due("two lines", delay(mill) + " " + mill.misses(), "12 2");
        mill.step(1);
        due("the unit has the line 2", delay(mill) + " " + mill.misses(), "2 2");
    }

    @Sentence(of = "Delays", says = "the lines of an instruction are looked at by rising lanes, each one once")
    static void aLineThatIsNamedAgainIsNotLookedAtAgain() {
        LaneMill mill = launched(1, 4, 2, 0, "l 0", "k 1 1", "< 1 1 0", "+ 1 1 1", "- 0 0 1", "k 1 16", "* 0 0 1", "r 1 0",
            "k 0 16", "r 1 0", "j 10");
        goTo(mill, 7);
        due("lanes name", registers(mill, 0, 4), "0 16 0 16");
        due("two lines, each one missing once", delay(mill) + " " + mill.misses(), "12 2");
        mill.step(1);
        due("the unit has the line 2", delay(mill) + " " + mill.misses(), "2 2");
    }

    @Sentence(of = "Delays", says = "for 'w' 1, and 1 more for each write that is written ahead of one")
    static void delaysOfWrites() {
        for (int threads = 1; threads <= 4; threads++) {
            LaneMill mill = launched(1, threads, 2, 0, "t 0", "f", "f", "w 0 0", "w 0 0", "j 5");
            mill.step(3);
            due("into an empty buffer", delay(mill), 1);
            due("of " + threads + " into one that has as many", delay(mill), 1 + Math.max(0, 2 * threads - 4));
        }
    }

    @Sentence(of = "Delays", says = "for 'a' and 'x' 2 for each lane")
    static void delaysOfAAndX() {
        for (String letter : new String[] {"a 0 0 0", "x 0 0 0"}) {
            for (int threads = 1; threads <= 4; threads++) {
                due(letter + " of " + threads, delay(launched(1, threads, 1, 0, letter, "j 1")), 2 * threads);
            }
            LaneMill full = launched(1, 4, 2, 0, "t 0", "f", "f", "w 0 0", "x 1 1 1", "j 5");
            full.step(4);
            due("whatever is written ahead of it", delay(full), 8);
        }
        LaneMill part = launched(1, 4, 2, 0, "l 0", "z 0 3", "a 1 1 1", "j 3");
        part.step(2);
        due("under the mask", part.mask(0, 0) + " " + delay(part), "14 6");
    }

    @Sentence(of = "Delays", says = "for 'f' 1, and 1 more for each write that is written")
    static void delaysOfFences() {
        due("of none", delay(launched(1, 4, 1, 0, "f", "j 1")), 1);
        for (int threads = 1; threads <= 4; threads++) {
            LaneMill mill = launched(1, threads, 1, 0, "t 0", "f", "f", "w 0 0", "f", "j 5");
            mill.step(4);
            due("of " + threads, delay(mill), 1 + threads);
        }
    }

    @Sentence(of = "Delays", says = "for 'c' 4 for each lane")
    static void delaysOfChildren() {
        for (int threads = 1; threads <= 4; threads++) {
            due("refused, of " + threads, delay(launched(1, threads, 1, 0, "c 0 3 0", "j 1")), 4 * threads);
        }
        LaneMill mill = new LaneMill();
        kernel(mill, 2, 0, "k 0 1", "c 1 1 0", "j 2");
        kernel(mill, 1, 0, "e");
        mill.launch(0, 0, 1, 2, -1);
        mill.step(1);
        due("launched", delay(mill) + " " + mill.launches(), "8 3");
        LaneMill part = launched(1, 4, 2, 0, "l 0", "z 0 3", "c 1 3 1", "j 3");
        part.step(2);
        due("under the mask", delay(part), 12);
    }

    @Sentence(of = "Delays", says = "and 1 for all others")
    static void delaysOfAllOthers() {
        for (char letter : "k+-<=tnlzjvsbe".toCharArray()) {
            LaneMill mill = new LaneMill();
            mill.addKernel(2, 0);
            mill.code(0, letter, 0, 1, 0);
            due("code", mill.code(0, 'j', 0, 1, 0), 1);
            mill.launch(0, 0, 1, 4, -1);
            mill.step(1);
            due("delay of " + letter, mill.meanDelay(), 1.0);
            due("the group of " + letter, letter == 'e' ? mill.groups(0) : mill.place(0, 0), letter == 'e' ? 0 : 1);
        }
        LaneMill waits = launched(1, 4, 1, 0, "t 0", "f", "f", "w 0 0", "b", "j 5");
        waits.step(4);
        due("'b' with a full buffer", delay(waits), 1);
    }
}
