/** The boundary cases that the promises 1 to 38 name: first and last values, nothing in it yet, and full. */
public final class PromisedCallsTest extends Checks {
    public static void main(String[] args) {
        Sentences.run(PromisedCallsTest.class);
    }

    // ---- 1 to 6: kernels and memory

    @Sentence(of = "Promise 1", says = "Creates a machine without kernels, at the cycle 0.")
    static void newMachine() {
        LaneMill mill = new LaneMill();
        due("cycle", mill.cycle(), 0);
        due("launches", mill.launches(), 0);
        due("figures", mill.lanes() + " " + mill.misses() + " " + mill.lost() + " " + mill.barriers() + " "
            + mill.refused(), "0 0 0 0 0");
        due("isSound", mill.isSound(), true);
        due("units", groups(mill), "0 0");
        due("the order", mill.setOrder('y'), 'o');
        refuses("kernel 0", INDEX, () -> mill.fits(0, 1));
        due("the first kernel", mill.addKernel(1, 0), 0);
    }

    @Sentence(of = "Promise 1", says = "Creates a machine without kernels, at the cycle 0.")
    static void newMachinesAreApart() {
        LaneMill busy = launched(1, 1, 2, 0, "k 0 5", "w 0 0", "r 1 0");
        busy.run(9);
        newMachine();
        LaneMill mill = new LaneMill();
        due("cell 5", busy.peek(5) + " " + mill.peek(5), "5 0");
    }

    @Sentence(of = "Promise 2", says = "`registers`: the registers of a thread, 1 to 8")
    static void registersOfAKernel() {
        for (int registers : new int[] {1, 8}) {
            LaneMill mill = new LaneMill();
            due("registers " + registers, mill.addKernel(registers, 0), 0);
            due("the last one", mill.code(0, 't', registers - 1, 0, 0), 0);
            refuses("one more", ARGUMENT, () -> mill.code(0, 't', registers, 0, 0));
        }
        for (int registers : new int[] {0, 9, -1, LEAST, GREATEST}) {
            refuses("registers " + registers, ARGUMENT, () -> new LaneMill().addKernel(registers, 0));
        }
    }

    @Sentence(of = "Promise 2", says = "`shared`: the shared cells of a block, 0 to 16")
    static void sharedCellsOfAKernel() {
        for (int shared : new int[] {0, 1, 16}) {
            LaneMill mill = new LaneMill();
            due("shared " + shared, mill.addKernel(1, shared), 0);
            mill.code(0, 'j', 0, 0, 0);
            mill.launch(0, 0, 1, 1, -1);
            mill.step(1);
            refuses("cell " + shared, INDEX, () -> mill.shared(0, 0, shared));
            if (shared > 0) {
                due("the last one", mill.shared(0, 0, shared - 1), 0);
            }
        }
        for (int shared : new int[] {-1, 17, LEAST, GREATEST}) {
            refuses("shared " + shared, ARGUMENT, () -> new LaneMill().addKernel(1, shared));
        }
    }

    @Sentence(of = "Promise 2", says = "Adds a kernel without instructions.")
    static void newKernelsHaveNoInstructions() {
        LaneMill mill = new LaneMill();
        mill.addKernel(1, 0);
        mill.addKernel(1, 0);
        mill.code(0, 'j', 0, 0, 0);
        mill.launch(0, 1, 1, 1, -1);
        due("done at once", mill.step(1) + " " + mill.state(0), "0 d");
        due("the first instruction", mill.addKernel(1, 0) + " " + mill.code(2, 'e', 0, 0, 0), "2 0");
    }

    @Sentence(of = "Promise 2", says = "Returns the number of the kernel.")
    static void numbersOfKernels() {
        LaneMill mill = new LaneMill();
        due("from 0 to 3", "" + mill.addKernel(1, 0) + mill.addKernel(8, 16) + mill.addKernel(2, 0) + mill.addKernel(4, 1), "0123");
        due("each its own", mill.fits(0, 4) + " " + mill.fits(1, 4) + " " + mill.fits(2, 8) + " " + mill.fits(3, 8), "4 2 2 2");
    }

    @Sentence(of = "Promise 2", says = "Throws `IllegalStateException` if there are 4 kernels")
    static void addingAFifthKernel() {
        LaneMill mill = new LaneMill();
        for (int i = 0; i < 4; i++) {
            due("kernel", mill.addKernel(8, 16), i);
        }
        refuses("a fifth", STATE, () -> mill.addKernel(1, 0));
        refuses("a fifth, out of range", ARGUMENT, () -> mill.addKernel(0, 0));
        refuses("there is none", INDEX, () -> mill.fits(4, 1));
    }

    @Sentence(of = "Promise 3", says = "Returns the number of the instruction.")
    static void numbersOfInstructions() {
        LaneMill mill = new LaneMill();
        mill.addKernel(1, 0);
        mill.addKernel(1, 0);
        for (int i = 0; i < 40; i++) {
            due("of the kernel 0", mill.code(0, 'e', 0, 0, 0), i);
        }
        due("of the kernel 1", mill.code(1, 'e', 0, 0, 0), 0);
    }

    @Sentence(of = "Promise 3", says = "Adds an instruction behind those of a kernel.")
    static void instructionsComeBehindOthers() {
        LaneMill mill = new LaneMill();
        mill.addKernel(1, 0);
        mill.addKernel(1, 0);
        mill.code(0, 'k', 0, 5, 0);
        mill.code(1, 'k', 0, 6, 0);
        mill.code(0, 'w', 0, 0, 0);
        mill.code(1, 'k', 0, 7, 0);
        mill.code(1, 'w', 0, 0, 0);
        mill.launch(0, 0, 1, 1, -1);
        mill.launch(0, 1, 1, 1, -1);
        mill.run(9);
        due("cells", cells(mill, 5, 7), "5 0 7");
    }

    private static final String LETTERS = "k+-*<=tnlzjrwRWaxvsbfce";

    @Sentence(of = "Promise 3", says = "if there is no such letter")
    static void lettersThatAreNone() {
        LaneMill mill = null;
        for (int sign = 0; sign <= Character.MAX_VALUE; sign++) {
            char letter = (char) sign;
            if (sign % 400 == 0) {
                mill = new LaneMill();
                mill.addKernel(1, 0);
            }
            LaneMill own = mill;
            if (LETTERS.indexOf(letter) < 0) {
                refuses("letter " + sign, ARGUMENT, () -> own.code(0, letter, 0, 0, 0));
            }
        }
        LaneMill all = new LaneMill();
        all.addKernel(1, 0);
        for (int i = 0; i < LETTERS.length(); i++) {
            due("letter " + LETTERS.charAt(i), all.code(0, LETTERS.charAt(i), 0, 0, 0), i);
        }
    }

    /** Each letter with 'r' for a number that names a register, 'p' for a place, 'k' for a kernel, '-' for any. */
    private static final String[] NUMBERS = {"k r--", "+ rrr", "- rrr", "* rrr", "< rrr", "= rrr", "t r--", "n r--", "l r--",
        "z rp-", "j -p-", "r rr-", "w rr-", "R rr-", "W rr-", "a rrr", "x rrr", "v rr-", "s rrr", "b ---", "f ---", "c rkr",
        "e ---"};

    private static Object coded(int registers, char letter, int position, int number) {
        LaneMill mill = new LaneMill();
        mill.addKernel(registers, 0);
        int[] n = new int[3];
        n[position] = number;
        return answerOrException(() -> mill.code(0, letter, n[0], n[1], n[2]));
    }

    @Sentence(of = "Promise 3", says = "or one of the numbers names a register of the instruction that the kernel does not have")
    static void registersOfInstructions() {
        for (int registers : new int[] {1, 5, 8}) {
            for (String row : NUMBERS) {
                for (int position = 0; position < 3; position++) {
                    boolean isRegister = row.charAt(2 + position) == 'r';
                    String what = row.charAt(0) + " at " + position + " of " + registers + " registers: ";
                    due(what + "the last one", coded(registers, row.charAt(0), position, registers - 1),
                        row.charAt(2 + position) == 'k' && registers > 4 ? ARGUMENT : (Object) 0);
                    for (int number : new int[] {-1, LEAST, GREATEST, registers}) {
                        boolean isTaken = row.charAt(2 + position) == '-' || number == registers
                            && (row.charAt(2 + position) == 'p' || row.charAt(2 + position) == 'k' && registers == 1);
                        due(what + number, coded(registers, row.charAt(0), position, number),
                            isRegister || !isTaken ? ARGUMENT : (Object) 0);
                    }
                }
            }
        }
    }

    @Sentence(of = "Promise 3", says = "or b is a place for 'z' or 'j', or a kernel for 'c', and is not from 0 to 39, or from 0 to "
        + "3")
    static void placesAndKernelsOfInstructions() {
        for (char letter : new char[] {'z', 'j'}) {
            for (int place : new int[] {0, 1, 39}) {
                due(letter + " to " + place, coded(1, letter, 1, place), 0);
            }
            for (int place : new int[] {-1, 40, LEAST, GREATEST}) {
                due(letter + " to " + place, coded(1, letter, 1, place), ARGUMENT);
            }
        }
        for (int kernel : new int[] {0, 1, 3}) {
            due("c of " + kernel, coded(1, 'c', 1, kernel), 0);
        }
        for (int kernel : new int[] {-1, 4, 39, LEAST, GREATEST}) {
            due("c of " + kernel, coded(1, 'c', 1, kernel), ARGUMENT);
        }
    }

    @Sentence(of = "Promise 3", says = "Throws `IllegalStateException` if there are 40 instructions, or the kernel was launched, as a "
        + "child or otherwise")
    static void codeOfFullKernels() {
        LaneMill mill = new LaneMill();
        mill.addKernel(1, 0);
        for (int i = 0; i < 39; i++) {
            mill.code(0, 'e', 0, 0, 0);
        }
        due("the last one", mill.code(0, 'e', 0, 0, 0), 39);
        refuses("one more", STATE, () -> mill.code(0, 'e', 0, 0, 0));
        refuses("and again", STATE, () -> mill.code(0, 'e', 0, 0, 0));
    }

    @Sentence(of = "Promise 3", says = "Throws `IllegalStateException` if there are 40 instructions, or the kernel was launched, as a "
        + "child or otherwise")
    static void codeOfLaunchedKernels() {
        LaneMill mill = new LaneMill();
        kernel(mill, 8, 0, "k 0 1", "c 1 1 0", "k 0 9", "c 1 2 0", "c 1 3 0");
        kernel(mill, 1, 0, "e");
        kernel(mill, 8, 0, "e");
        due("not yet", mill.code(1, 'e', 0, 0, 0), 1);
        refuses("a block that does not fit", UNSUPPORTED, () -> mill.launch(0, 2, 1, 9, -1));
        refuses("no block", ARGUMENT, () -> mill.launch(0, 2, 0, 1, -1));
        due("a launch that was refused is none", mill.code(2, 'e', 0, 0, 0), 1);
        mill.launch(0, 0, 1, 1, -1);
        refuses("queued", STATE, () -> mill.code(0, 'e', 0, 0, 0));
        mill.step(2);
        refuses("a child that is queued", STATE, () -> mill.code(1, 'e', 0, 0, 0));
        mill.run(99);
        due("a child that was refused is none", mill.refused() + " " + mill.code(2, 'e', 0, 0, 0), "2 2");
        refuses("over", STATE, () -> mill.code(0, 'e', 0, 0, 0));
        refuses("a child that is over", STATE, () -> mill.code(1, 'e', 0, 0, 0));
        mill.copy(0, 0, 1, 1, -1);
        mill.serial(1, 1, 1, false, 0);
        due("neither is a copy", mill.code(2, 'e', 0, 0, 0), 3);
    }

    @Sentence(of = "Promise 3", says = "or the kernel was launched, as a child or otherwise")
    static void codeOfACancelledKernel() {
        LaneMill mill = new LaneMill();
        kernel(mill, 1, 0, "R 0 0");
        kernel(mill, 1, 0, "e");
        mill.launch(0, 0, 1, 1, -1);
        mill.launch(0, 1, 1, 1, -1);
        mill.run(9);
        due("cancelled", states(mill), "fx");
        refuses("it was launched", STATE, () -> mill.code(1, 'e', 0, 0, 0));
    }

    @Sentence(of = "Promise 4", says = "Returns the number of blocks, 0 if not one fits.")
    static void noBlockFits() {
        LaneMill mill = new LaneMill();
        mill.addKernel(8, 16);
        due("one", mill.fits(0, 8), 1);
        due("none", mill.fits(0, 9), 0);
        due("none of the largest", mill.fits(0, 16), 0);
        due("two", mill.fits(0, 1), 2);
    }

    @Sentence(of = "Promise 4", says = "Returns how many blocks of a size fit into an empty unit together.")
    static void fitsWhateverIsInTheUnits() {
        LaneMill mill = launched(6, 16, 1, 0, "j 0");
        mill.step(9);
        due("units are full", groups(mill) + " / " + mill.fits(0, 1) + " " + mill.fits(0, 16), "4 4 / 4 1");
    }

    @Sentence(of = "Promise 4", says = "`threads`: the number of threads of a block, 1 to 16")
    static void fitsOfTooFewOrTooManyThreads() {
        LaneMill mill = new LaneMill();
        mill.addKernel(1, 0);
        due("1", mill.fits(0, 1), 4);
        due("16", mill.fits(0, 16), 1);
        for (int threads : new int[] {0, 17, -1, LEAST, GREATEST}) {
            refuses("threads " + threads, ARGUMENT, () -> mill.fits(0, threads));
        }
    }

    @Sentence(of = "Promise 5", says = "Writes a global cell at once.")
    static void pokedCellsAreThereAtOnce() {
        LaneMill mill = launched(1, 1, 2, 0, "r 1 0", "j 1");
        due("before", mill.poke(0, LEAST), 0);
        due("before that", mill.poke(0, GREATEST), LEAST);
        due("now", mill.peek(0), GREATEST);
        mill.step(1);
        due("r", mill.register(0, 0, 0, 1), GREATEST);
        LaneMill buffer = launched(1, 1, 1, 0, "w 0 0", "j 1");
        buffer.step(1);
        due("whatever is in buffers", buffer.poke(0, 7) + " " + buffer.peek(0), "0 7");
        buffer.step(2);
        due("which come later", buffer.peek(0), 0);
    }

    @Sentence(of = "Promise 5", says = "Returns the value before.")
    static void valuesBefore() {
        LaneMill mill = new LaneMill();
        int before = 0;
        for (int value : new int[] {5, LEAST, GREATEST, 0, -1, -1}) {
            due("before " + value, mill.poke(63, value), before);
            before = value;
        }
    }

    @Sentence(of = "Promise 5", says = "`cell`: the cell, 0 to 63")
    static void pokedCells() {
        LaneMill mill = new LaneMill();
        for (int cell : new int[] {0, 63}) {
            due("cell " + cell, mill.poke(cell, cell + 1) + " " + mill.peek(cell), "0 " + (cell + 1));
        }
        for (int cell : new int[] {-1, 64, LEAST, GREATEST}) {
            refuses("cell " + cell, INDEX, () -> mill.poke(cell, 5));
        }
        due("no other cell", cells(mill, 0, 63), "1" + " 0".repeat(62) + " 64");
    }

    @Sentence(of = "Promise 6", says = "`cell`: the cell, 0 to 63")
    static void firstAndLastPeekedCells() {
        LaneMill mill = new LaneMill();
        mill.poke(0, 5);
        mill.poke(63, 6);
        due("0 and 63", mill.peek(0) + " " + mill.peek(63), "5 6");
        refuses("-1", INDEX, () -> mill.peek(-1));
        refuses("64", INDEX, () -> mill.peek(64));
    }

    @Sentence(of = "Promise 6", says = "Returns the value, whatever waits in buffers.")
    static void peekedCells() {
        LaneMill mill = launched(1, 4, 2, 0, "k 0 1", "w 1 0", "j 2");
        mill.poke(0, 5);
        mill.step(2);
        due("four writes wait", mill.buffered(0, 0) + " " + mill.peek(0), "4 5");
        mill.step(1);
        due("one is written", mill.buffered(0, 0) + " " + mill.peek(0), "3 1");
        for (int cell : new int[] {-1, 64, LEAST, GREATEST}) {
            refuses("cell " + cell, INDEX, () -> mill.peek(cell));
        }
    }

    // ---- 7 to 12: launches

    @Sentence(of = "Promise 7", says = "`queue`: the queue, 0 or 1")
    static void queuesOfLaunches() {
        LaneMill mill = new LaneMill();
        kernel(mill, 1, 0, "e");
        due("queue 0", mill.launch(0, 0, 1, 1, -1), 0);
        due("queue 1", mill.launch(1, 0, 1, 1, -1), 1);
        for (int queue : new int[] {-1, 2, LEAST, GREATEST}) {
            refuses("queue " + queue, INDEX, () -> mill.launch(queue, 0, 1, 1, -1));
        }
        mill.step(1);
        due("both run", states(mill), "dd");
    }

    @Sentence(of = "Promise 7", says = "`blocks`: the number of blocks, 1 to 6")
    static void blocksOfLaunches() {
        for (int blocks : new int[] {1, 6}) {
            LaneMill mill = launched(blocks, 1, 2, 0, "k 0 1", "a 1 1 0");
            mill.run(99);
            due("blocks " + blocks, mill.given(0), blocks);
        }
        LaneMill mill = new LaneMill();
        kernel(mill, 1, 0, "e");
        for (int blocks : new int[] {0, 7, -1, LEAST, GREATEST}) {
            refuses("blocks " + blocks, ARGUMENT, () -> mill.launch(0, 0, blocks, 1, -1));
        }
    }

    @Sentence(of = "Promise 7", says = "`threads`: the number of threads of a block, 1 to 16")
    static void threadsOfLaunches() {
        for (int threads : new int[] {1, 16}) {
            LaneMill mill = launched(1, threads, 3, 0, "k 0 1", "a 1 2 0");
            mill.run(99);
            due("threads " + threads, mill.peek(0), threads);
        }
        LaneMill mill = new LaneMill();
        kernel(mill, 1, 0, "e");
        for (int threads : new int[] {0, 17, -1, LEAST, GREATEST}) {
            refuses("threads " + threads, ARGUMENT, () -> mill.launch(0, 0, 1, threads, -1));
        }
    }

    @Sentence(of = "Promise 7", says = "`after`: the number of the launch after which it is, or -1 for none")
    static void launchesAfterOthers() {
        LaneMill mill = new LaneMill();
        kernel(mill, 1, 0, "e");
        refuses("0, and there is none", INDEX, () -> mill.launch(0, 0, 1, 1, 0));
        due("-1", mill.launch(0, 0, 1, 1, -1), 0);
        refuses("itself", INDEX, () -> mill.launch(0, 0, 1, 1, 1));
        due("the last one", mill.launch(0, 0, 1, 1, 0), 1);
        for (int after : new int[] {-2, 2, 12, LEAST, GREATEST}) {
            refuses("after " + after, INDEX, () -> mill.launch(0, 0, 1, 1, after));
        }
    }

    @Sentence(of = "Promise 7", says = "Throws `UnsupportedOperationException` if not one block fits into an empty unit")
    static void launchesOfBlocksThatDoNotFit() {
        LaneMill mill = new LaneMill();
        mill.addKernel(8, 16);
        mill.addKernel(4, 16);
        due("64 registers", mill.launch(0, 0, 1, 8, -1) + " " + mill.launch(0, 1, 6, 16, -1), "0 1");
        refuses("72 registers", UNSUPPORTED, () -> mill.launch(0, 0, 1, 9, -1));
        refuses("128 registers", UNSUPPORTED, () -> mill.launch(0, 0, 6, 16, -1));
    }

    @Sentence(of = "Promise 7", says = "Throws `IllegalStateException` if there are 12 launches")
    static void launchesOfAThirteenth() {
        LaneMill mill = new LaneMill();
        kernel(mill, 1, 0, "e");
        for (int i = 0; i < 12; i++) {
            due("number", mill.launch(0, 0, 1, 1, i - 1), i);
        }
        refuses("one more", STATE, () -> mill.launch(0, 0, 1, 1, 11));
        refuses("one more after none", STATE, () -> mill.launch(1, 0, 1, 1, -1));
    }

    @Sentence(of = "Promise 8", says = "`queue`: the queue, 0 or 1")
    static void queuesOfCopies() {
        LaneMill mill = new LaneMill();
        due("queue 0", mill.copy(0, 0, 0, 1, -1), 0);
        due("queue 1", mill.copy(1, 0, 0, 1, -1), 1);
        for (int queue : new int[] {-1, 2, LEAST, GREATEST}) {
            refuses("queue " + queue, INDEX, () -> mill.copy(queue, 0, 0, 1, -1));
        }
    }

    @Sentence(of = "Promise 8", says = "`from`: the first cell that is moved")
    static void firstCellsOfCopies() {
        LaneMill mill = new LaneMill();
        for (int cell : new int[] {0, 61, 62, 63}) {
            mill.poke(cell, cell + 100);
        }
        mill.copy(0, 61, 10, 3, -1);
        mill.copy(0, 0, 63, 1, -1);
        mill.step(1);
        due("the first one first", cells(mill, 10, 12), "161 0 0");
        mill.run(9);
        due("up to the last one", cells(mill, 10, 12) + " " + mill.peek(63), "161 162 163 100");
        refuses("one more", ARGUMENT, () -> mill.copy(0, 62, 10, 3, -1));
        refuses("one less", ARGUMENT, () -> mill.copy(0, -1, 10, 3, -1));
    }

    @Sentence(of = "Promise 8", says = "`to`: the first cell to which one is moved")
    static void firstCellsToWhichCopiesMove() {
        LaneMill mill = new LaneMill();
        mill.poke(10, 5);
        mill.poke(12, 6);
        mill.copy(0, 10, 61, 3, -1);
        mill.copy(0, 10, 0, 1, -1);
        mill.run(9);
        due("up to the last one", cells(mill, 60, 63) + " / " + cells(mill, 0, 1), "0 5 0 6 / 5 0");
        refuses("one more", ARGUMENT, () -> mill.copy(0, 10, 62, 3, -1));
        refuses("one less", ARGUMENT, () -> mill.copy(0, 10, -1, 3, -1));
    }

    @Sentence(of = "Promise 8", says = "`cells`: the number of cells, 1 to 64")
    static void cellsOfCopies() {
        LaneMill mill = new LaneMill();
        for (int cells : new int[] {0, 65, -1, LEAST, GREATEST}) {
            refuses("cells " + cells, ARGUMENT, () -> mill.copy(0, 0, 0, cells, -1));
        }
        due("1", mill.copy(0, 0, 0, 1, -1), 0);
        due("64", mill.copy(0, 0, 0, 64, -1), 1);
        due("run", mill.run(500), 65);
    }

    @Sentence(of = "Promise 8", says = "or a cell that is moved, or to which one is moved, is none")
    static void copiesOfCellsThatAreNone() {
        LaneMill mill = new LaneMill();
        for (int[] bad : new int[][] {{-1, 1}, {64, 1}, {63, 2}, {1, 64}, {60, 5}, {LEAST, 1}, {GREATEST, 1}, {GREATEST, 64},
            {-1, 2}, {-64, 64}}) {
            refuses("from " + bad[0] + ", " + bad[1], ARGUMENT, () -> mill.copy(0, bad[0], 0, bad[1], -1));
            refuses("to " + bad[0] + ", " + bad[1], ARGUMENT, () -> mill.copy(0, 0, bad[0], bad[1], -1));
        }
        due("none was launched", mill.launches(), 0);
        mill.poke(63, 5);
        due("the last cell", mill.copy(0, 63, 62, 1, -1) + " " + mill.copy(0, 59, 0, 5, -1) + " " + mill.copy(0, 0, 59, 5, -1),
            "0 1 2");
        mill.run(99);
        due("moved", mill.peek(62) + " " + cells(mill, 0, 4) + " " + cells(mill, 59, 63), "5 0 0 0 5 5 0 0 0 5 5");
    }

    @Sentence(of = "Promise 8", says = "`after`: the number of the launch after which it is, or -1 for none")
    static void copiesAfterOthers() {
        LaneMill mill = new LaneMill();
        refuses("0, and there is none", INDEX, () -> mill.copy(0, 0, 0, 1, 0));
        due("-1", mill.copy(0, 0, 0, 1, -1), 0);
        refuses("itself", INDEX, () -> mill.copy(0, 0, 0, 1, 1));
        due("the last one", mill.copy(1, 0, 0, 1, 0), 1);
        for (int after : new int[] {-2, 2, 12, LEAST, GREATEST}) {
            refuses("after " + after, INDEX, () -> mill.copy(0, 0, 0, 1, after));
        }
        mill.step(1);
        due("it waits", states(mill), "dq");
        mill.step(1);
        due("and comes", states(mill), "dd");
    }

    @Sentence(of = "Promise 8", says = "Throws `IllegalStateException` if there are 12 launches")
    static void copiesOfAThirteenth() {
        LaneMill mill = new LaneMill();
        for (int i = 0; i < 12; i++) {
            due("number", mill.copy(0, 0, 0, 1, -1), i);
        }
        refuses("one more", STATE, () -> mill.copy(0, 0, 0, 1, -1));
    }

    @Sentence(of = "Promise 9", says = "Returns the number of launches, copies and children included.")
    static void numberOfLaunches() {
        LaneMill mill = new LaneMill();
        due("none yet", mill.launches(), 0);
        kernel(mill, 1, 0, "k 0 1", "c 0 1 0", "c 0 0 0", "c 0 3 0");
        kernel(mill, 1, 0, "e");
        mill.launch(0, 0, 1, 1, -1);
        mill.copy(1, 0, 1, 1, -1);
        due("two of the host", mill.launches(), 2);
        mill.run(99);
        due("two children, and two of the second one", mill.launches() + " " + mill.refused(), "6 5");
    }

    @Sentence(of = "Promise 10", says = "Returns 'q', 'r', 'd', 'f' or 'x'.")
    static void statesOfLaunches() {
        LaneMill mill = new LaneMill();
        kernel(mill, 1, 0, "k 0 1", "k 0 1");
        kernel(mill, 1, 0, "k 0 1", "k 0 1", "R 0 0");
        refuses("there is none", INDEX, () -> mill.state(0));
        mill.launch(0, 0, 1, 1, -1);
        mill.launch(1, 1, 1, 1, -1);
        mill.copy(1, 0, 0, 1, -1);
        due("ahead of the first cycle", states(mill), "qqq");
        mill.step(1);
        due("behind it", states(mill), "rrq");
        mill.step(1);
        due("done", states(mill), "drq");
        mill.step(1);
        due("failed", states(mill), "dfq");
        mill.step(1);
        due("cancelled", states(mill), "dfx");
        mill.step(100);
        due("for ever", states(mill), "dfx");
        refuses("the launch 3", INDEX, () -> mill.state(3));
        refuses("the launch -1", INDEX, () -> mill.state(-1));
    }

    @Sentence(of = "Promise 11", says = "Throws `NoSuchElementException` if it is no child")
    static void parentsOfLaunches() {
        LaneMill mill = new LaneMill();
        kernel(mill, 1, 0, "k 0 1", "c 0 0 0");
        mill.copy(1, 0, 0, 1, -1);
        mill.launch(0, 0, 1, 1, -1);
        mill.run(99);
        refuses("a copy", NO_ELEMENT, () -> mill.parent(0));
        refuses("a launch of the host", NO_ELEMENT, () -> mill.parent(1));
        due("a child, and one of the child", mill.parent(2) + " " + mill.parent(3), "1 2");
        refuses("the launch 4", INDEX, () -> mill.parent(4));
        refuses("the launch -1", INDEX, () -> mill.parent(-1));
    }

    @Sentence(of = "Promise 12", says = "Returns the number of blocks, 0 for a copy.")
    static void givenBlocks() {
        LaneMill mill = launched(6, 16, 2, 0, "k 0 1", "c 1 0 0", "k 0 1");
        mill.copy(1, 0, 0, 2, -1);
        due("none yet", mill.given(0) + " " + mill.given(1), "0 0");
        mill.step(1);
        due("two", mill.given(0) + " " + mill.given(1), "2 0");
        mill.run(500);
        due("all, and none of a copy that is done", mill.given(0) + " " + mill.given(1) + " " + mill.state(1), "6 0 d");
        due("one of a child", mill.given(2), 1);
        refuses("no such launch", INDEX, () -> mill.given(mill.launches()));
        refuses("the launch -1", INDEX, () -> mill.given(-1));
    }

    @Sentence(of = "Promise 12", says = "Returns how many blocks of a launch have been given to units.")
    static void givenBlocksOfFailedAndCancelledLaunches() {
        LaneMill mill = launched(6, 16, 1, 0, "R 0 0");
        mill.launch(0, 0, 6, 16, -1);
        mill.run(99);
        due("two, and none", states(mill) + " " + mill.given(0) + " " + mill.given(1), "fx 2 0");
    }

    // ---- 13 to 16: cycles

    @Sentence(of = "Promise 13", says = "`cycles`: the number of cycles, 1 to 100")
    static void stepsOfOneAndOf100Cycles() {
        LaneMill mill = launched(1, 1, 1, 0, "j 0");
        due("1", mill.step(1) + " " + mill.cycle(), "1 1");
        due("100", mill.step(100) + " " + mill.cycle(), "100 101");
        for (int cycles : new int[] {0, 101, -1, LEAST, GREATEST}) {
            refuses("cycles " + cycles, ARGUMENT, () -> mill.step(cycles));
        }
        due("no cycle has come", mill.cycle(), 101);
    }

    @Sentence(of = "Promise 13", says = "Returns the number of instructions that groups carry out in them, those with faults included.")
    static void instructionsOfSteps() {
        due("without launches", new LaneMill().step(100), 0);
        LaneMill mill = launched(6, 4, 1, 0, "l 0", "R 0 0");
        due("in both units", mill.step(1), 2);
        due("a fault in the unit 0, and three times nothing", mill.step(4) + " " + mill.state(0), "1 f");
        due("over", mill.step(9), 0);
    }

    @Sentence(of = "Promise 14", says = "`most`: the number of cycles, 1 to 500")
    static void runsOfOneAndOf500Cycles() {
        LaneMill mill = launched(1, 1, 1, 0, "j 0");
        due("1", mill.run(1) + " " + mill.cycle(), "1 1");
        due("500", mill.run(500) + " " + mill.cycle(), "500 501");
        for (int most : new int[] {0, 501, -1, LEAST, GREATEST}) {
            refuses("most " + most, ARGUMENT, () -> mill.run(most));
        }
        due("no cycle has come", mill.cycle(), 501);
    }

    @Sentence(of = "Promise 14", says = "Lets cycles come until all launches are over, or as many have come as are told.")
    static void runsUntilAllAreOver() {
        due("no launch", new LaneMill().run(500), 0);
        LaneMill mill = launched(1, 1, 1, 0, "k 0 1", "k 0 1", "k 0 1");
        due("one fewer", mill.run(2) + " " + mill.state(0), "2 r");
        due("the last one", mill.run(1) + " " + mill.state(0), "1 d");
        due("over", mill.run(1) + " " + mill.cycle(), "0 3");
        LaneMill exact = launched(1, 1, 1, 0, "k 0 1", "k 0 1", "k 0 1");
        due("as many as it takes", exact.run(3) + " " + exact.state(0), "3 d");
        LaneMill more = launched(1, 1, 1, 0, "k 0 1", "k 0 1", "k 0 1");
        due("more than it takes", more.run(4) + " " + more.cycle(), "3 3");
        LaneMill fault = launched(1, 1, 1, 0, "R 0 0");
        fault.launch(0, 0, 1, 1, -1);
        due("until a launch is cancelled", fault.run(500) + " " + states(fault), "2 fx");
        LaneMill child = new LaneMill();
        kernel(child, 1, 0, "k 0 1", "c 0 1 0", "R 0 0");
        kernel(child, 1, 0, "* 0 0 0", "* 0 0 0", "* 0 0 0", "k 0 1");
        child.launch(0, 0, 1, 1, -1);
        due("until a child is over", child.run(500) + " " + states(child), "9 fd");
    }

    @Sentence(of = "Promise 15", says = "`order`: the order, 'o', 'y' or 'a'")
    static void ordersThatAreNone() {
        LaneMill mill = null;
        for (int sign = 0; sign <= Character.MAX_VALUE; sign++) {
            char order = (char) sign;
            mill = sign % 400 == 0 ? new LaneMill() : mill;
            LaneMill own = mill;
            if ("oya".indexOf(order) < 0) {
                refuses("order " + sign, ARGUMENT, () -> own.setOrder(order));
            }
        }
        due("the order is as it was", mill.setOrder('a'), 'o');
    }

    @Sentence(of = "Promise 15", says = "Returns the order before.")
    static void ordersBefore() {
        LaneMill mill = new LaneMill();
        String answers = "";
        for (char order : "oyyaoayo".toCharArray()) {
            answers += mill.setOrder(order);
        }
        due("each one is answered by the next call", answers, "oo" + "yyaoay");
    }

    @Sentence(of = "Promise 16", says = "Returns the number of cycles that have come.")
    static void numberOfCycles() {
        LaneMill mill = launched(1, 1, 1, 0, "k 0 1", "k 0 1");
        due("none yet", mill.cycle(), 0);
        mill.run(500);
        due("two of 500", mill.cycle(), 2);
        mill.step(100);
        due("100 more", mill.cycle(), 102);
    }

    // ---- 17 to 25: groups in units

    @Sentence(of = "Promise 17", says = "Returns the number of groups in a unit.")
    static void numberOfGroups() {
        LaneMill mill = launched(1, 16, 1, 0, "j 0");
        due("none yet", groups(mill), "0 0");
        mill.step(1);
        due("full, and empty", groups(mill), "4 0");
        for (int unit : new int[] {-1, 2, LEAST, GREATEST}) {
            refuses("unit " + unit, INDEX, () -> mill.groups(unit));
        }
    }

    /** A machine with two groups in each unit, and what a call answers of each of them. */
    private static void bothUnits(GroupCall call, String answers) {
        LaneMill mill = launched(2, 5, 2, 1, "n 0", "z 0 4", "w 0 0", "j 3", "k 1 5", "W 0 1", "j 6");
        mill.step(4);
        due("groups 0 and 1 of the units 0 and 1", call.answer(mill, 0, 0) + " " + call.answer(mill, 0, 1) + " "
            + call.answer(mill, 1, 0) + " " + call.answer(mill, 1, 1), answers);
        for (int bad : new int[] {-1, 2, LEAST, GREATEST}) {
            refuses("unit " + bad, INDEX, () -> call.answer(mill, bad, 0));
            refuses("group " + bad, INDEX, () -> call.answer(mill, 1, bad));
        }
    }

    @Sentence(of = "Promise 17", says = "`unit`: the unit, 0 or 1")
    static void unitsOfGroups() {
        LaneMill mill = launched(3, 5, 1, 0, "j 0");
        mill.step(1);
        due("units 0 and 1", mill.groups(0) + " " + mill.groups(1), "4 2");
        refuses("unit -1", INDEX, () -> mill.groups(-1));
        refuses("unit 2", INDEX, () -> mill.groups(2));
    }

    @Sentence(of = "Promise 18", says = "`unit`: the unit, 0 or 1")
    static void unitsOfThreadAt() {
        bothUnits(LaneMill::threadAt, "0 4 100 104");
    }

    @Sentence(of = "Promise 19", says = "`unit`: the unit, 0 or 1")
    static void unitsOfPlace() {
        bothUnits(LaneMill::place, "6 0 3 0");
    }

    @Sentence(of = "Promise 20", says = "`unit`: the unit, 0 or 1")
    static void unitsOfMask() {
        bothUnits(LaneMill::mask, "15 1 15 1");
    }

    @Sentence(of = "Promise 21", says = "`unit`: the unit, 0 or 1")
    static void unitsOfPlaces() {
        bothUnits(LaneMill::places, "1 1 1 1");
    }

    @Sentence(of = "Promise 22", says = "`unit`: the unit, 0 or 1")
    static void unitsOfReason() {
        bothUnits(LaneMill::reason, "- - - -");
    }

    @Sentence(of = "Promise 23", says = "`unit`: the unit, 0 or 1")
    static void unitsOfRegister() {
        bothUnits((mill, unit, group) -> mill.register(unit, group, 0, 0), "0 0 1 0");
        bothUnits((mill, unit, group) -> mill.register(unit, group, 0, 1), "5 0 0 0");
    }

    @Sentence(of = "Promise 24", says = "`unit`: the unit, 0 or 1")
    static void unitsOfShared() {
        bothUnits((mill, unit, group) -> mill.shared(unit, group, 0), "5 5 0 0");
    }

    @Sentence(of = "Promise 25", says = "`unit`: the unit, 0 or 1")
    static void unitsOfBuffered() {
        bothUnits(LaneMill::buffered, "0 0 3 0");
    }

    @Sentence(of = "Promise 18", says = "Returns 1000 times its launch, plus 100 times its block, plus the number of the thread.")
    static void threadsOfTheLastLaunchAndBlock() {
        LaneMill mill = new LaneMill();
        kernel(mill, 1, 0, "k 0 1", "j 1");
        for (int i = 0; i < 11; i++) {
            mill.copy(1, 0, 0, 1, -1);
        }
        mill.launch(0, 0, 6, 1, -1);
        mill.step(1);
        due("the block 5 of the launch 11", threads(mill, 1), "11100 11300 11500");
        LaneMill wide = launched(1, 13, 1, 0, "j 0");
        wide.step(1);
        due("the thread 12", threads(wide, 0), "0 4 8 12");
        LaneMill last = launched(6, 16, 1, 0, "k 0 1");
        last.step(11);
        due("the thread 12 of the block 5", last.threadAt(1, 3), 512);
    }

    @Sentence(of = "Promise 18", says = "`group`: the index of the group in the order in which they came to the unit, from 0")
    static void indexesOfGroups() {
        LaneMill mill = launched(1, 16, 1, 1, "j 0");
        groupRefused(mill, 0, 0);
        mill.step(1);
        due("the last one", mill.threadAt(0, 3) + " " + mill.place(0, 3) + " " + mill.mask(0, 3) + " " + mill.places(0, 3)
            + mill.reason(0, 3) + mill.register(0, 3, 3, 0) + mill.shared(0, 3, 0) + mill.buffered(0, 3), "12 0 15 1-000");
        for (int group : new int[] {-1, 4, LEAST, GREATEST}) {
            groupRefused(mill, 0, group);
        }
        groupRefused(mill, 1, 0);
        for (int unit : new int[] {-1, 2, LEAST, GREATEST}) {
            groupRefused(mill, unit, 0);
        }
    }

    private static void groupRefused(LaneMill mill, int unit, int group) {
        String what = "of the group " + group + " of the unit " + unit;
        refuses("threadAt " + what, INDEX, () -> mill.threadAt(unit, group));
        refuses("place " + what, INDEX, () -> mill.place(unit, group));
        refuses("mask " + what, INDEX, () -> mill.mask(unit, group));
        refuses("places " + what, INDEX, () -> mill.places(unit, group));
        refuses("reason " + what, INDEX, () -> mill.reason(unit, group));
        refuses("register " + what, INDEX, () -> mill.register(unit, group, 0, 0));
        refuses("shared " + what, INDEX, () -> mill.shared(unit, group, 0));
        refuses("buffered " + what, INDEX, () -> mill.buffered(unit, group));
    }

    @Sentence(of = "Promise 18", says = "`group`: the index of the group in the order in which they came to the unit, from 0")
    static void indexesBecomeLessWhenGroupsLeave() {
        LaneMill mill = new LaneMill();
        kernel(mill, 1, 0, "k 0 1");
        kernel(mill, 1, 0, "j 0");
        mill.launch(0, 0, 2, 1, -1);
        mill.launch(1, 1, 2, 1, -1);
        mill.step(1);
        due("the launch 0 has left", threads(mill, 0) + " / " + threads(mill, 1), "1000 / 1100");
        groupRefused(mill, 0, 1);
    }

    @Sentence(of = "Promise 19", says = "Throws `NoSuchElementException` if none of its threads runs")
    static void placesOfGroupsThatDoNotRun() {
        LaneMill mill = launched(1, 9, 2, 0, "t 0", "k 1 4", "< 1 0 1", "z 1 5", "e", "b", "j 6");
        // The threads 0 to 3 end, the threads 4 to 8 wait.
        mill.step(5);
        due("ended", mill.reason(0, 0), 'e');
        refuses("place of one that has ended", NO_ELEMENT, () -> mill.place(0, 0));
        due("the first place", mill.place(0, 1), 0);
        mill.step(5);
        due("waits", mill.reason(0, 1), 'b');
        refuses("place of one that waits", NO_ELEMENT, () -> mill.place(0, 1));
        mill.step(5);
        due("both run again", places(mill, 0), "- 6 6");
    }

    @Sentence(of = "Promise 20", says = "0 if none of its threads runs")
    static void masksOfGroups() {
        LaneMill mill = launched(1, 6, 1, 0, "l 0", "z 0 3", "b", "e");
        mill.step(1);
        due("all four, and both", mill.mask(0, 0) + " " + mill.mask(0, 1), "15 3");
        mill.step(2);
        due("the lane 0", mill.mask(0, 0), 1);
        mill.step(1);
        due("one has ended, three wait", mill.mask(0, 0) + "" + mill.reason(0, 0), "0b");
        mill.step(3);
        due("the lane 0 of the other group", mill.mask(0, 1), 1);
    }

    @Sentence(of = "Promise 20", says = "Returns the sum of 2 to the power of the lane, over all lanes under the mask")
    static void masksOfTheLastLane() {
        LaneMill mill = launched(1, 4, 2, 0, "l 0", "k 1 3", "= 1 0 1", "z 1 5", "j 4", "e");
        mill.step(5);
        due("the lane 3 at 4", mill.place(0, 0) + " " + mill.mask(0, 0) + " " + mill.places(0, 0), "4 8 2");
    }

    @Sentence(of = "Promise 21", says = "Returns at how many different places threads of a group run.")
    static void noneToFourPlaces() {
        LaneMill mill = launched(1, 5, 2, 0, "l 0", "z 0 10", "k 1 1", "- 0 0 1", "z 0 10", "- 0 0 1", "z 0 11", "b", "e", "e",
            "b", "b");
        StringBuilder text = new StringBuilder();
        for (int i = 0; i < 11; i++) {
            mill.step(1);
            text.append(mill.places(0, 0));
        }
        // The lanes 0 and 1 go to 10, the lane 2 to 11, the lane 3 waits at 7, and then the others do.
        due("places", text.toString(), "12222232100");
        LaneMill four = launched(1, 4, 2, 0, "l 0", "z 0 8", "k 1 1", "- 0 0 1", "z 0 9", "- 0 0 1", "z 0 10", "j 7", "f", "f",
            "f", "f");
        four.step(7);
        due("four", four.places(0, 0) + " " + four.mask(0, 0), "4 8");
    }

    @Sentence(of = "Promise 22", says = "Returns 'b' if none of its threads runs and one waits, 'e' if all have ended, 'd' if its delay "
        + "is not over, or '-'; the first one that applies.")
    static void reasonsOfGroups() {
        LaneMill mill = launched(1, 5, 2, 0, "l 0", "z 0 3", "b", "e");
        mill.step(1);
        due("it can", mill.reason(0, 0) + "" + mill.reason(0, 1), "--");
        mill.step(2);
        due("one runs, three wait", mill.reason(0, 0), '-');
        mill.step(1);
        due("one has ended, three wait", mill.reason(0, 0), 'b');
        LaneMill delay = launched(1, 8, 1, 0, "* 0 0 0", "j 1");
        delay.step(1);
        due("its delay is not over", delay.reason(0, 0) + "" + delay.reason(0, 1), "d-");
        delay.step(1);
        due("it is over", delay.reason(0, 0) + "" + delay.reason(0, 1), "-d");
    }

    @Sentence(of = "Promise 22", says = "the first one that applies")
    static void reasonsAheadOfDelays() {
        LaneMill ended = launched(1, 5, 1, 0, "* 0 0 0");
        ended.step(1);
        due("ended, with a delay", ended.reason(0, 0), 'e');
        LaneMill waits = launched(1, 5, 2, 0, "l 0", "z 0 3", "b", "* 0 0 0");
        // The lane 0 ends by an instruction with a delay, and the others wait.
        waits.step(4);
        due("waiting, with a delay", waits.reason(0, 0), 'b');
    }

    @Sentence(of = "Promise 23", says = "Throws `IndexOutOfBoundsException` if there is no such unit, no such group, no thread in this "
        + "lane, or no such register of the kernel")
    static void registersOfThreads() {
        for (int count : new int[] {1, 8}) {
            LaneMill mill = launched(1, 6, count, 0, "t " + (count - 1), "j 1");
            mill.setOrder('y');
            mill.step(1);
            due("the lane 1, the last register", mill.register(0, 1, 1, count - 1), 5);
            for (int register : new int[] {-1, count, LEAST, GREATEST}) {
                refuses("register " + register + " of " + count, INDEX, () -> mill.register(0, 1, 1, register));
            }
            for (int lane : new int[] {-1, 2, 3, 4, LEAST, GREATEST}) {
                refuses("lane " + lane, INDEX, () -> mill.register(0, 1, lane, 0));
            }
            for (int lane : new int[] {-1, 4, LEAST, GREATEST}) {
                refuses("lane " + lane + " of four", INDEX, () -> mill.register(0, 0, lane, 0));
            }
            due("the lane 3 of the group 0", mill.register(0, 0, 3, 0), 0);
        }
    }

    @Sentence(of = "Promise 23", says = "`lane`: the lane, 0 to 3")
    static void lanesOfRegisters() {
        LaneMill mill = launched(1, 8, 2, 0, "t 1", "j 1");
        mill.setOrder('a');
        mill.step(2);
        for (int lane = 0; lane < 4; lane++) {
            due("lane " + lane, mill.register(0, 0, lane, 1) + " " + mill.register(0, 1, lane, 1), lane + " " + (lane + 4));
        }
        refuses("lane 4", INDEX, () -> mill.register(0, 0, 4, 1));
        refuses("lane -1", INDEX, () -> mill.register(0, 1, -1, 1));
    }

    @Sentence(of = "Promise 23", says = "Returns a register of a thread in a unit.")
    static void registersOfThreadsThatHaveEnded() {
        LaneMill mill = launched(1, 5, 1, 0, "k 0 7");
        mill.step(1);
        due("ended, and not yet begun", mill.reason(0, 0) + " " + mill.register(0, 0, 3, 0) + mill.register(0, 1, 0, 0), "e 70");
    }

    @Sentence(of = "Promise 24", says = "Returns a shared cell of the block of a group.")
    static void sharedCellsOfTheFirstAndTheLastGroup() {
        LaneMill mill = launched(2, 16, 2, 16, "t 0", "k 1 7", "n 1", "W 0 1", "j 4");
        mill.setOrder('a');
        mill.step(20);
        due("of the group 3, in both units", mill.shared(0, 3, 15) + " " + mill.shared(1, 3, 15) + " " + mill.shared(1, 0, 0),
            "0 1 1");
    }

    @Sentence(of = "Promise 24", says = "Throws `IndexOutOfBoundsException` if there is no such unit, no such group, or no such shared "
        + "cell of the kernel")
    static void sharedCellsOfBlocks() {
        for (int count : new int[] {0, 1, 16}) {
            LaneMill mill = launched(2, 5, 2, count, "k 0 " + (count - 1), "t 1", "f", count > 0 ? "W 0 1" : "f", "j 4");
            mill.step(4);
            if (count > 0) {
                due("the last one", mill.shared(0, 0, count - 1), 3);
                due("of the other group of the block", mill.shared(0, 1, count - 1), 3);
                due("the first one", mill.shared(1, 0, 0), count == 1 ? 3 : 0);
            }
            for (int cell : new int[] {-1, count, 17, LEAST, GREATEST}) {
                refuses("cell " + cell + " of " + count, INDEX, () -> mill.shared(0, 0, cell));
            }
        }
    }

    @Sentence(of = "Promise 25", says = "Returns the number of writes in the buffer of a group.")
    static void numberOfWrites() {
        for (int threads = 1; threads <= 4; threads++) {
            LaneMill mill = launched(2, threads, 1, 0, "f", "f", "f", "w 0 0", "j 4");
            mill.step(3);
            due("none yet", mill.buffered(0, 0) + " " + mill.buffered(1, 0), "0 0");
            mill.step(1);
            due("of " + threads, mill.buffered(0, 0) + " " + mill.buffered(1, 0), threads + " " + threads);
        }
        LaneMill full = launched(1, 4, 1, 0, "f", "f", "f", "w 0 0", "w 0 0", "j 5");
        full.step(5);
        due("never more than four", full.buffered(0, 0), 4);
    }

    // ---- 26 to 29: faults and races

    @Sentence(of = "Promise 26", says = "Returns 'g', 's' or 'b'.")
    static void faultsOfLaunches() {
        String[][] rows = {{"g", "k 0 64", "r 0 0"}, {"s", "W 0 0"}, {"b", "l 0", "z 0 3", "b", "b"}};
        for (String[] row : rows) {
            String[] lines = new String[row.length - 1];
            System.arraycopy(row, 1, lines, 0, lines.length);
            LaneMill mill = launched(1, 2, 1, 0, lines);
            mill.run(9);
            due("fault", "" + mill.fault(0), row[0]);
        }
    }

    @Sentence(of = "Promise 26", says = "Throws `NoSuchElementException` if it has not failed")
    static void launchesThatHaveNotFailed() {
        LaneMill mill = new LaneMill();
        kernel(mill, 1, 0, "k 0 1", "R 0 0");
        kernel(mill, 1, 0, "k 0 1");
        mill.launch(0, 0, 1, 1, -1);
        mill.launch(0, 1, 1, 1, -1);
        mill.launch(1, 1, 1, 1, -1);
        mill.copy(1, 0, 0, 1, -1);
        for (int cycles = 0; cycles < 4; cycles++) {
            for (int launch = 0; launch < 4; launch++) {
                int number = launch;
                boolean isFailed = launch == 0 && cycles >= 2;
                String what = "of " + mill.state(launch) + " in the cycle " + cycles;
                due("fault " + what, answerOrException(() -> mill.fault(number)), isFailed ? (Object) 's' : NO_ELEMENT);
                due("faultAt " + what, answerOrException(() -> mill.faultAt(number)), isFailed ? (Object) 1 : NO_ELEMENT);
            }
            mill.step(1);
        }
        due("all kinds", states(mill), "fxdd");
    }

    @Sentence(of = "Promise 27", says = "Returns 10000 times the block, plus 100 times the thread, plus the place at which this thread "
        + "was.")
    static void whereLaunchesFailed() {
        LaneMill first = launched(6, 16, 1, 0, "R 0 0");
        first.run(9);
        due("the first thread at the first place", first.faultAt(0), 0);
        String[] lines = new String[40];
        for (int i = 0; i < 40; i++) {
            lines[i] = "f";
        }
        // The thread 15 of the block 5 is the only one that comes to 39 with another cell than 0.
        String[] begin = {"n 0", "k 1 5", "= 0 0 1", "t 1", "k 2 15", "= 1 1 2", "* 0 0 1"};
        System.arraycopy(begin, 0, lines, 0, begin.length);
        lines[39] = "R 1 0";
        LaneMill last = launched(6, 16, 4, 1, lines);
        last.run(500);
        last.run(500);
        due("the last thread at the last place", last.state(0) + " " + last.fault(0) + " " + last.faultAt(0), "f s 51539");
    }

    @Sentence(of = "Promise 28", says = "`cell`: the cell, 0 to 63")
    static void racingCells() {
        LaneMill mill = launched(1, 2, 2, 0, "w 0 0", "k 0 63", "w 0 0", "k 0 1", "r 1 0");
        due("none yet", racingCells(mill, 0), "/0");
        mill.run(99);
        due("the first and the last", racingCells(mill, 0), ",0,63/2");
        for (int cell : new int[] {-1, 64, LEAST, GREATEST}) {
            refuses("cell " + cell, INDEX, () -> mill.isRacing(0, cell));
        }
        for (int launch : new int[] {-1, 1, LEAST, GREATEST}) {
            refuses("launch " + launch, INDEX, () -> mill.isRacing(launch, 0));
            refuses("races of " + launch, INDEX, () -> mill.races(launch));
        }
    }

    @Sentence(of = "Promise 28", says = "Returns whether there was.")
    static void racesAreRememberedWhenTheLaunchIsOver() {
        LaneMill mill = launched(1, 2, 1, 0, "w 0 0", "k 0 1");
        due("not yet", mill.isRacing(0, 0), false);
        mill.step(1);
        due("there was", mill.isRacing(0, 0) + " " + mill.isRacing(0, 1), "true false");
        mill.run(99);
        mill.launch(0, 0, 1, 1, -1);
        mill.run(99);
        due("still", mill.isRacing(0, 0) + " " + mill.isRacing(1, 0), "true false");
    }

    @Sentence(of = "Promise 29", says = "Returns the number of cells with races in a launch: of global cells, and of shared cells, those "
        + "of each block counted by themselves.")
    static void numberOfRaces() {
        LaneMill mill = launched(6, 2, 4, 16, "k 0 15", "W 1 1", "W 0 1", "W 0 1", "w 1 1", "w 0 1", "R 2 0");
        mill.run(99);
        due("two global cells, and two of each of six blocks", racingCells(mill, 0), ",0,15/14");
        LaneMill failed = launched(1, 2, 2, 0, "w 0 0", "R 0 0");
        failed.run(99);
        due("of one that has failed", failed.state(0) + racingCells(failed, 0), "f,0/1");
        LaneMill copy = new LaneMill();
        copy.copy(0, 0, 0, 9, -1);
        copy.run(99);
        due("of a copy", racingCells(copy, 0), "/0");
        LaneMill all = launched(1, 2, 4, 0, "k 1 64", "k 2 1", "w 0 0", "+ 0 0 2", "< 3 0 1", "z 3 7", "j 2");
        all.run(500);
        due("64 global cells", all.state(0) + " " + all.races(0), "d 64");
    }

    // ---- 30: serial

    @Sentence(of = "Promise 30", says = "Returns what is in it in the end.")
    static void serialOfAnEmptyKernel() {
        LaneMill mill = new LaneMill();
        mill.addKernel(1, 0);
        mill.poke(0, 5);
        mill.poke(63, 6);
        for (boolean isFalling : new boolean[] {false, true}) {
            due("cells", mill.serial(0, 6, 16, isFalling, 0) + " " + mill.serial(0, 1, 1, isFalling, 63), "5 6");
        }
    }

    @Sentence(of = "Promise 30", says = "from the global memory as it is now")
    static void serialDoesNotSeeBuffers() {
        LaneMill mill = new LaneMill();
        kernel(mill, 2, 0, "k 0 9", "w 0 0", "j 2");
        kernel(mill, 2, 0, "k 0 9", "r 1 0", "k 0 10", "w 0 1");
        mill.poke(9, 4);
        mill.launch(0, 0, 1, 1, -1);
        mill.step(2);
        due("a write waits", mill.buffered(0, 0) + " " + mill.serial(1, 1, 1, false, 10), "1 4");
        due("the cell is as it was", mill.serial(1, 1, 1, false, 9), 4);
        mill.step(1);
        due("it is written", mill.buffered(0, 0) + " " + mill.serial(1, 1, 1, false, 10), "0 9");
    }

    @Sentence(of = "Promise 30", says = "blocks by rising numbers; in a block, again and again, the threads that run, by rising numbers, "
        + "each one until it waits at a barrier or ends, and then the barrier is looked at as told")
    static void serialGoesByRisingNumbers() {
        // Each thread takes a number from cell 0, and leaves it in a cell of its own; and again behind a barrier.
        LaneMill mill = new LaneMill();
        kernel(mill, 4, 0, "n 0", "k 1 2", "* 0 0 1", "t 1", "+ 0 0 1", "k 1 10", "+ 0 0 1", "k 1 1", "k 2 0", "a 3 2 1", "w 0 3",
            "b", "a 3 2 1", "k 1 20", "+ 0 0 1", "w 0 3");
        StringBuilder rising = new StringBuilder();
        StringBuilder falling = new StringBuilder();
        for (int cell : new int[] {10, 11, 12, 13, 14, 15, 30, 31, 32, 33, 34, 35}) {
            rising.append(mill.serial(0, 3, 2, false, cell)).append(' ');
            falling.append(mill.serial(0, 3, 2, true, cell)).append(' ');
        }
        due("rising", rising.toString(), "0 1 4 5 8 9 2 3 6 7 10 11 ");
        due("falling", falling.toString(), "9 8 5 4 1 0 11 10 7 6 3 2 ");
    }

    @Sentence(of = "Promise 30", says = "`isFalling`: whether blocks and threads come by falling numbers instead")
    static void serialGoesByFallingNumbers() {
        LaneMill mill = new LaneMill();
        kernel(mill, 3, 0, "t 0", "w 2 0", "k 1 1", "n 0", "w 1 0");
        due("the last thread and block", mill.serial(0, 6, 16, false, 0) + " " + mill.serial(0, 6, 16, false, 1), "15 5");
        due("the first ones", mill.serial(0, 6, 16, true, 0) + " " + mill.serial(0, 6, 16, true, 1), "0 0");
        due("one of each", mill.serial(0, 1, 1, true, 0) + " " + mill.serial(0, 1, 1, false, 1), "0 0");
    }

    @Sentence(of = "Promise 30", says = "and then the barrier is looked at as told")
    static void serialLooksAtBarriers() {
        LaneMill mill = new LaneMill();
        kernel(mill, 2, 0, "t 0", "z 0 4", "b", "e", "b", "e");
        kernel(mill, 2, 0, "t 0", "z 0 3", "b", "k 0 7", "w 1 0");
        kernel(mill, 2, 0, "b");
        refuses("at different places", STATE, () -> mill.serial(0, 1, 2, false, 0));
        refuses("by falling numbers", STATE, () -> mill.serial(0, 1, 2, true, 0));
        due("one thread", mill.serial(0, 1, 1, false, 0), 0);
        due("one that ends does not wait", mill.serial(1, 1, 16, false, 0), 7);
        due("behind the last barrier all end", mill.serial(2, 6, 16, false, 0), 0);
    }

    @Sentence(of = "Promise 30", says = "Writes are written at once; nothing of this changes the machine.")
    static void serialWritesAtOnce() {
        LaneMill mill = new LaneMill();
        kernel(mill, 3, 2, "k 0 1", "w 0 0", "r 1 0", "k 0 2", "w 0 1", "k 1 1", "a 2 0 1", "W 2 2", "b", "R 2 2", "f");
        due("r behind w", mill.serial(0, 1, 1, false, 2), 2);
        due("the memory", cells(mill, 0, 3), "0 0 0 0");
        due("figures", mill.lanes() + " " + mill.misses() + " " + mill.lost() + " " + mill.barriers() + " " + mill.cycle() + " "
            + mill.launches(), "0 0 0 0 0 0");
        refuses("no instruction of groups", ARITHMETIC, mill::usedShare);
        due("the kernel was not launched", mill.code(0, 'e', 0, 0, 0), 11);
        due("again", mill.serial(0, 1, 1, false, 2), 2);
    }

    @Sentence(of = "Promise 30", says = "Returns what a global cell would be if a kernel ran now with nothing beside it")
    static void serialBesideLaunches() {
        LaneMill mill = launched(6, 16, 4, 0, "k 0 1", "a 1 2 0", "k 0 2");
        mill.step(6);
        int before = mill.peek(0);
        due("three groups in each unit have come", before, 24);
        due("all of it once more", mill.serial(0, 6, 16, false, 0), before + 96);
        due("the memory", mill.peek(0), before);
    }

    @Sentence(of = "Promise 30", says = "Returns what a global cell would be if a kernel ran now with nothing beside it")
    static void serialOfBlocksThatFitIntoNoUnit() {
        LaneMill mill = new LaneMill();
        kernel(mill, 8, 16, "k 0 1", "a 1 2 0");
        due("no block fits", mill.fits(0, 16), 0);
        due("serial has no exception for this", mill.serial(0, 6, 16, false, 0), 96);
    }

    @Sentence(of = "Promise 30", says = "with its threads one after the other")
    static void serialBeginsEachBlockAnew() {
        LaneMill mill = new LaneMill();
        kernel(mill, 3, 1, "R 1 2", "k 0 9", "a 0 0 1", "k 1 5", "W 2 1");
        due("shared cells are 0 in each block", mill.serial(0, 6, 1, false, 9), 0);
        due("and kept in a block", mill.serial(0, 6, 16, false, 9), 6 * 15 * 5);
        kernel(mill, 2, 0, "k 1 9", "a 0 1 0", "k 0 3");
        due("registers are 0 in each thread", mill.serial(1, 6, 16, false, 9), 0);
    }

    @Sentence(of = "Promise 30", says = "`blocks`: the number of blocks, 1 to 6")
    static void serialOfBlocks() {
        LaneMill mill = new LaneMill();
        kernel(mill, 3, 0, "k 0 1", "a 1 2 0");
        due("1", mill.serial(0, 1, 1, false, 0), 1);
        due("6", mill.serial(0, 6, 1, false, 0), 6);
        for (int blocks : new int[] {0, 7, -1, LEAST, GREATEST}) {
            refuses("blocks " + blocks, ARGUMENT, () -> mill.serial(0, blocks, 1, false, 0));
        }
    }

    @Sentence(of = "Promise 30", says = "`threads`: the number of threads of a block, 1 to 16")
    static void serialOfThreads() {
        LaneMill mill = new LaneMill();
        kernel(mill, 3, 0, "k 0 1", "a 1 2 0");
        due("1", mill.serial(0, 1, 1, true, 0), 1);
        due("16", mill.serial(0, 1, 16, true, 0), 16);
        due("96 in all", mill.serial(0, 6, 16, true, 0), 96);
        for (int threads : new int[] {0, 17, -1, LEAST, GREATEST}) {
            refuses("threads " + threads, ARGUMENT, () -> mill.serial(0, 1, threads, false, 0));
        }
    }

    @Sentence(of = "Promise 30", says = "`cell`: the cell, 0 to 63")
    static void serialOfCells() {
        LaneMill mill = new LaneMill();
        kernel(mill, 1, 0, "k 0 63", "w 0 0");
        due("0 and 63", mill.serial(0, 1, 1, false, 0) + " " + mill.serial(0, 1, 1, false, 63), "0 63");
        for (int cell : new int[] {-1, 64, LEAST, GREATEST}) {
            refuses("cell " + cell, INDEX, () -> mill.serial(0, 1, 1, false, cell));
        }
    }

    @Sentence(of = "Promise 30", says = "Throws `UnsupportedOperationException` if the kernel has an instruction with the letter 'v', 's' "
        + "or 'c'")
    static void serialOfLettersThatLanesShare() {
        for (char letter : LETTERS.toCharArray()) {
            for (boolean isFirst : new boolean[] {true, false}) {
                LaneMill mill = new LaneMill();
                kernel(mill, 2, 1, isFirst ? "f" : "e");
                mill.code(0, letter, 0, 1, 0);
                boolean isShared = "vsc".indexOf(letter) >= 0;
                Object got = answerOrException(() -> mill.serial(0, 1, 1, false, 0));
                due("letter " + letter, got, isShared ? UNSUPPORTED : "jz".indexOf(letter) >= 0 && isFirst ? STATE : (Object) 0);
            }
        }
    }

    @Sentence(of = "Promise 30", says = "Throws `IllegalStateException` if there would be a fault, or a thread would carry out more than "
        + "200 instructions")
    static void serialWithFaults() {
        for (String letter : new String[] {"r 1 0", "w 0 1", "a 1 0 1", "x 1 0 1", "R 1 0", "W 0 1"}) {
            boolean isShared = letter.charAt(0) < 'a';
            for (int cell : new int[] {-1, 0, isShared ? 15 : 63, isShared ? 16 : 64, LEAST, GREATEST}) {
                LaneMill mill = new LaneMill();
                kernel(mill, 2, 16, "k 0 " + cell, letter);
                boolean isNone = cell < 0 || cell > 63 || isShared && cell > 15;
                due(letter + " of " + cell, answerOrException(() -> mill.serial(0, 1, 1, false, 30)), isNone ? STATE : (Object) 0);
            }
        }
        LaneMill last = new LaneMill();
        kernel(last, 2, 1, "n 0", "k 1 5", "< 0 1 0", "R 0 0", "n 0", "t 1", "* 0 0 1", "k 1 60", "< 0 1 0", "R 0 0");
        due("the blocks 0 to 5", last.serial(0, 6, 13, false, 0), 0);
        refuses("the last thread of the last block", STATE, () -> last.serial(0, 6, 14, false, 0));
        refuses("by falling numbers", STATE, () -> last.serial(0, 6, 14, true, 0));
        due("one block fewer", last.serial(0, 5, 16, false, 0), 0);
    }

    @Sentence(of = "Promise 30", says = "or a thread would carry out more than 200 instructions")
    static void serialOf200Instructions() {
        // 2 instructions ahead of a loop of 3 for each of 66 rounds: 200.
        LaneMill mill = new LaneMill();
        kernel(mill, 2, 0, "k 0 66", "k 1 -1", "+ 0 0 1", "z 0 5", "j 2");
        due("199", mill.serial(0, 6, 16, false, 0), 0);
        mill.code(0, 'f', 0, 0, 0);
        due("200", mill.serial(0, 6, 16, false, 0), 0);
        mill.code(0, 'f', 0, 0, 0);
        refuses("201", STATE, () -> mill.serial(0, 1, 1, false, 0));
        refuses("201 by falling numbers", STATE, () -> mill.serial(0, 6, 16, true, 0));
    }

    @Sentence(of = "Promise 30", says = "or a thread would carry out more than 200 instructions")
    static void serialCountsAcrossBarriers() {
        for (int rounds : new int[] {49, 50}) {
            LaneMill mill = new LaneMill();
            kernel(mill, 2, 0, "k 0 " + rounds, "k 1 -1", "b", "+ 0 0 1", "z 0 6", "j 2", "f");
            // 2 ahead, 4 for each round but the last, which has 3, and 1 behind.
            due("rounds " + rounds, answerOrException(() -> mill.serial(0, 6, 16, false, 0)), rounds == 49 ? (Object) 0 : STATE);
        }
        LaneMill exact = new LaneMill();
        kernel(exact, 2, 0, "k 0 49", "k 1 -1", "b", "+ 0 0 1", "z 0 6", "j 2", "f", "f");
        due("199", exact.serial(0, 6, 16, false, 0), 0);
        exact.code(0, 'b', 0, 0, 0);
        due("200, the last one a barrier", exact.serial(0, 6, 16, false, 0), 0);
        exact.code(0, 'b', 0, 0, 0);
        refuses("201", STATE, () -> exact.serial(0, 1, 1, false, 0));
    }

    @Sentence(of = "Promise 30", says = "Throws `IllegalStateException` if there would be a fault, or a thread would carry out more than "
        + "200 instructions")
    static void serialOfOneThreadThatGoesOnForEver() {
        LaneMill mill = new LaneMill();
        kernel(mill, 2, 0, "t 0", "k 1 15", "= 0 0 1", "z 0 5", "j 4", "e");
        kernel(mill, 1, 0, "b", "j 0");
        due("fifteen threads", mill.serial(0, 6, 15, false, 0), 0);
        refuses("the sixteenth", STATE, () -> mill.serial(0, 1, 16, false, 0));
        refuses("barriers for ever", STATE, () -> mill.serial(1, 1, 16, false, 0));
    }

    // ---- 31 to 38: figures

    @Sentence(of = "Promise 31", says = "Returns the sum, over all instructions of groups, of the lanes that carried them out.")
    static void lanesOfInstructions() {
        LaneMill mill = launched(1, 5, 1, 0, "l 0", "z 0 3", "k 0 1");
        due("none yet", mill.lanes(), 0L);
        mill.step(2);
        due("four and four", mill.lanes(), 8L);
        mill.step(1);
        due("three", mill.lanes(), 11L);
        mill.step(2);
        due("one and one", mill.lanes(), 13L);
    }

    @Sentence(of = "Promise 31", says = "Returns the number of instructions that lanes have carried out, those with faults not counted.")
    static void lanesOfInstructionsWithFaults() {
        LaneMill mill = launched(1, 4, 1, 2, "l 0", "R 0 0");
        mill.run(9);
        due("the lanes 0 and 1 have done it", mill.faultAt(0) + " " + mill.lanes(), "201 6");
        LaneMill none = launched(1, 4, 1, 0, "R 0 0");
        none.run(9);
        due("none has", none.lanes(), 0L);
    }

    @Sentence(of = "Promise 32", says = "Returns how many lines units did not have when they were looked at; for an instruction with a "
        + "fault, none are.")
    static void missedLines() {
        LaneMill mill = launched(1, 1, 1, 0, "r 0 0", "k 0 7", "r 0 0", "k 0 8", "r 0 0", "j 5");
        due("none yet", mill.misses(), 0);
        mill.step(1);
        due("one", mill.misses(), 1);
        mill.step(7);
        due("no other one of the same line", mill.misses(), 1);
        mill.step(9);
        due("two", mill.misses(), 2);
        LaneMill fault = new LaneMill();
        kernel(fault, 3, 0, "l 0", "k 1 64", "* 0 0 1", "r 1 0");
        kernel(fault, 1, 0, "r 0 0");
        fault.launch(0, 0, 1, 2, -1);
        fault.run(99);
        due("of one with a fault", fault.state(0) + " " + fault.misses(), "f 0");
        fault.launch(0, 1, 1, 1, -1);
        fault.run(99);
        due("the unit does not have its line", fault.misses(), 1);
    }

    @Sentence(of = "Promise 33", says = "the sum of the delays of all 'R' and 'W' without faults, minus their number")
    static void lostCycles() {
        LaneMill mill = launched(1, 4, 3, 16, "l 0", "R 1 0", "k 1 4", "* 2 0 1", "R 1 2", "W 2 1", "k 0 0", "R 1 0", "j 8");
        due("none yet", mill.lost(), 0);
        mill.step(2);
        due("none of four banks", mill.lost(), 0);
        mill.step(4);
        due("three of one bank", mill.place(0, 0) + " " + mill.lost(), "5 3");
        mill.step(4);
        due("three more", mill.lost(), 6);
        mill.step(9);
        due("none of one cell", mill.place(0, 0) + " " + mill.lost(), "8 6");
        LaneMill fault = launched(1, 4, 2, 12, "l 0", "k 1 4", "* 0 0 1", "R 0 0");
        fault.run(99);
        due("none of one with a fault", fault.faultAt(0) + " " + fault.lost(), "303 0");
    }

    @Sentence(of = "Promise 34", says = "Returns how many barriers blocks have passed.")
    static void passedBarriers() {
        LaneMill mill = launched(6, 16, 1, 0, "b", "b");
        due("none yet", mill.barriers(), 0);
        mill.step(3);
        due("three groups of each wait", mill.barriers(), 0);
        mill.step(1);
        due("two blocks", mill.barriers(), 2);
        mill.run(500);
        due("twelve", mill.barriers(), 12);
        LaneMill fault = launched(1, 2, 1, 0, "b", "l 0", "z 0 4", "b", "b");
        fault.run(99);
        due("none with a fault", fault.fault(0) + " " + fault.barriers(), "b 1");
    }

    @Sentence(of = "Promise 35", says = "Returns how many children were refused.")
    static void refusedChildren() {
        LaneMill mill = launched(1, 4, 1, 0, "c 0 3 0", "k 0 1", "c 0 0 0");
        due("none yet", mill.refused(), 0);
        mill.step(1);
        due("each lane by itself", mill.refused() + " " + mill.launches(), "4 1");
        mill.run(500);
        // Each of four children refuses one of no threads, and launches another one, until there are twelve.
        due("all", mill.launches() + " " + mill.state(0), "9 d");
        due("refused", mill.refused(), 4 + 4 + 8);
    }

    @Sentence(of = "Promise 36", says = "the number of instructions that lanes have carried out divided by 4 times that of instructions "
        + "that groups have carried out, both converted to float")
    static void usedShares() {
        LaneMill mill = launched(1, 3, 2, 0, "l 0", "z 0 4", "k 1 1", "j 3", "j 4");
        mill.step(1);
        due("three of four", mill.usedShare(), 0.75f);
        mill.step(2);
        due("3, 3 and 2 of 12", mill.usedShare(), 8.0f / 12.0f);
        mill.step(4);
        due("in float", mill.usedShare(), 16.0f / 28.0f);
        LaneMill full = launched(2, 4, 1, 0, "j 0");
        full.step(100);
        due("all", full.usedShare(), 1.0f);
    }

    @Sentence(of = "Promise 36", says = "instructions with faults count with the lanes that did them")
    static void usedSharesWithFaults() {
        LaneMill none = launched(1, 4, 1, 0, "R 0 0");
        none.run(9);
        due("none", none.usedShare(), 0.0f);
        LaneMill three = launched(1, 4, 1, 3, "l 0", "R 0 0");
        three.run(9);
        due("four and three of eight", three.usedShare(), 0.875f);
    }

    @Sentence(of = "Promise 36", says = "Throws `ArithmeticException` if no group has carried out an instruction")
    static void usedShareOfNothing() {
        LaneMill mill = new LaneMill();
        refuses("new", ARITHMETIC, mill::usedShare);
        mill.addKernel(1, 0);
        mill.launch(0, 0, 6, 16, -1);
        mill.copy(1, 0, 0, 1, -1);
        mill.run(9);
        due("all are done", states(mill), "dd");
        refuses("without an instruction", ARITHMETIC, mill::usedShare);
        LaneMill one = launched(1, 1, 1, 0, "k 0 1");
        refuses("queued", ARITHMETIC, one::usedShare);
        one.step(1);
        due("one", one.usedShare(), 0.25f);
    }

    @Sentence(of = "Promise 37", says = "the sum of the delays divided by their number, both converted to double")
    static void meanDelays() {
        LaneMill mill = launched(1, 1, 1, 0, "* 0 0 0", "k 0 1", "k 0 1", "R 0 0");
        mill.step(1);
        due("2", mill.meanDelay(), 2.0);
        mill.step(1);
        due("2 still", mill.meanDelay(), 2.0);
        mill.step(2);
        due("4 of 3", mill.meanDelay(), 4.0 / 3.0);
        mill.step(9);
        due("a fault does not count", mill.state(0) + " " + mill.meanDelay(), "f " + 4.0 / 3.0);
    }

    @Sentence(of = "Promise 37", says = "Throws `ArithmeticException` if there were none")
    static void meanDelayOfNothing() {
        LaneMill mill = new LaneMill();
        refuses("new", ARITHMETIC, mill::meanDelay);
        LaneMill fault = launched(1, 4, 1, 2, "R 0 0", "l 0", "R 0 0");
        refuses("queued", ARITHMETIC, fault::meanDelay);
        fault.step(1);
        due("one", fault.meanDelay(), 1.0);
        LaneMill first = launched(1, 4, 1, 0, "R 0 0");
        first.run(9);
        due("failed", first.state(0) + " " + first.usedShare(), "f 0.0");
        refuses("one with a fault alone", ARITHMETIC, first::meanDelay);
    }

    @Sentence(of = "Promise 38", says = "in each unit, there are no more groups, registers and shared cells than it has room for; each "
        + "buffer has at most 4 writes; and no launch that is over has groups in units")
    static void machinesAreSound() {
        LaneMill mill = new LaneMill();
        due("new", mill.isSound(), true);
        kernel(mill, 4, 16, "t 0", "n 1", "w 0 1", "w 1 0", "k 2 1", "c 3 1 2", "b", "w 0 1", "k 1 15", "= 1 0 1", "z 1 12", "W 0 1", "f");
        kernel(mill, 8, 16, "w 0 0", "w 0 0", "R 0 0", "k 0 -1", "r 0 0");
        mill.launch(0, 0, 6, 16, -1);
        mill.launch(1, 1, 6, 8, -1);
        LaneMill full = launched(1, 4, 1, 0, "f", "f", "f", "w 0 0", "j 4");
        full.step(4);
        due("with four writes", full.buffered(0, 0) + " " + full.isSound(), "4 true");
        for (int i = 0; i < 200; i++) {
            mill.step(3);
            due("step " + i, mill.isSound(), true);
        }
        due("the launch 0, and those of the kernel 1", states(mill), "d" + "f".repeat(11));
    }
}
