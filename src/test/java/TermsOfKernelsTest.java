/** The boundary cases that 'Terms' names for numbers, memory, units, kernels, threads, groups and masks. */
public final class TermsOfKernelsTest extends Checks {
    public static void main(String[] args) {
        Sentences.run(TermsOfKernelsTest.class);
    }

    // ---- Numbers

    /** What a letter makes of two numbers. */
    private static int reckoned(char letter, int one, int other) {
        LaneMill mill = launched(1, 1, 3, 0, "k 1 " + one, "k 2 " + other, letter + " 0 1 2", "j 3");
        mill.step(3);
        return mill.register(0, 0, 0, 0);
    }

    @Sentence(of = "Numbers", says = "All numbers that are reckoned are ints, which wrap around like ints in Java.")
    static void sumsWrapAround() {
        due("greatest + 0", reckoned('+', GREATEST, 0), GREATEST);
        due("greatest + 1", reckoned('+', GREATEST, 1), LEAST);
        due("least + -1", reckoned('+', LEAST, -1), GREATEST);
        due("least + least", reckoned('+', LEAST, LEAST), 0);
    }

    @Sentence(of = "Numbers", says = "All numbers that are reckoned are ints, which wrap around like ints in Java.")
    static void differencesWrapAround() {
        due("least - 0", reckoned('-', LEAST, 0), LEAST);
        due("least - 1", reckoned('-', LEAST, 1), GREATEST);
        due("greatest - -1", reckoned('-', GREATEST, -1), LEAST);
        due("0 - least", reckoned('-', 0, LEAST), LEAST);
    }

    @Sentence(of = "Numbers", says = "All numbers that are reckoned are ints, which wrap around like ints in Java.")
    static void productsWrapAround() {
        due("greatest * greatest", reckoned('*', GREATEST, GREATEST), 1);
        due("least * -1", reckoned('*', LEAST, -1), LEAST);
        due("65536 * 65536", reckoned('*', 65536, 65536), 0);
        due("65536 * 32768", reckoned('*', 65536, 32768), LEAST);
        due("46341 * 46341", reckoned('*', 46341, 46341), -2147479015);
    }

    @Sentence(of = "Numbers", says = "All numbers that are reckoned are ints, which wrap around like ints in Java.")
    static void comparedNumbersDoNotWrapAround() {
        due("least < greatest", reckoned('<', LEAST, GREATEST), 1);
        due("greatest < least", reckoned('<', GREATEST, LEAST), 0);
        due("least < 1", reckoned('<', LEAST, 1), 1);
        due("greatest < -1", reckoned('<', GREATEST, -1), 0);
        due("least = greatest", reckoned('=', LEAST, GREATEST), 0);
        due("least = least", reckoned('=', LEAST, LEAST), 1);
    }

    @Sentence(of = "Numbers", says = "All numbers that are reckoned are ints, which wrap around like ints in Java.")
    static void increasedCellsWrapAround() {
        LaneMill mill = launched(1, 2, 3, 0, "k 1 1", "a 0 2 1", "j 2");
        mill.poke(0, GREATEST);
        mill.step(2);
        due("registers and cell", registers(mill, 0, 2) + " " + mill.peek(0),
            GREATEST + " " + LEAST + " " + (LEAST + 1));
        LaneMill down = launched(1, 1, 3, 0, "k 1 -1", "a 0 2 1", "j 2");
        down.poke(0, LEAST);
        down.step(2);
        due("below the least", down.peek(0), GREATEST);
    }

    @Sentence(of = "Numbers", says = "All numbers that are reckoned are ints, which wrap around like ints in Java.")
    static void serialWrapsAround() {
        LaneMill mill = new LaneMill();
        kernel(mill, 4, 0, "k 1 " + GREATEST, "k 2 1", "+ 0 1 2", "w 3 0", "k 3 1", "- 0 0 2", "w 3 0", "k 3 2",
            "* 0 1 1", "w 3 0", "k 3 3", "a 0 3 1");
        mill.poke(3, 1);
        due("sum", mill.serial(0, 1, 1, false, 0), LEAST);
        due("difference", mill.serial(0, 1, 1, false, 1), GREATEST);
        due("product", mill.serial(0, 1, 1, false, 2), 1);
        due("increased", mill.serial(0, 1, 1, false, 3), LEAST);
    }

    // ---- Memory and units

    @Sentence(of = "Memory and units", says = "The global memory has the cells 0 to 63, 0 at first.")
    static void allCellsAre0AtFirst() {
        LaneMill mill = new LaneMill();
        for (int cell = 0; cell < 64; cell++) {
            due("cell " + cell, mill.peek(cell), 0);
        }
        refuses("cell 64", INDEX, () -> mill.peek(64));
        refuses("cell -1", INDEX, () -> mill.peek(-1));
    }

    @Sentence(of = "Memory and units", says = "The global memory has the cells 0 to 63, 0 at first.")
    static void kernelsHaveTheFirstAndTheLastCell() {
        for (int cell : new int[] {0, 63}) {
            LaneMill mill = launched(1, 1, 3, 0, "k 0 " + cell, "r 1 0", "a 1 0 1", "k 2 7", "w 0 2");
            mill.poke(cell, 4);
            mill.run(99);
            due("state", mill.state(0), 'd');
            due("cell " + cell, mill.peek(cell), 7);
            due("the other one", mill.peek(63 - cell), 0);
        }
    }

    @Sentence(of = "Memory and units", says = "There are the units 0 and 1; a unit has room for 4 groups, 64 registers and "
        + "32 shared cells at the same time.")
    static void thereAreTwoUnits() {
        LaneMill mill = new LaneMill();
        due("nothing in them yet", groups(mill), "0 0");
        refuses("unit 2", INDEX, () -> mill.groups(2));
        refuses("unit -1", INDEX, () -> mill.groups(-1));
    }

    /** A machine in which each unit has blocks of a kernel, and then as many as fit of another one. */
    private static LaneMill filled(int[] first, int[] second) {
        LaneMill mill = new LaneMill();
        kernel(mill, first[2], first[3], "j 0");
        kernel(mill, second[2], second[3], "j 0");
        mill.launch(0, 0, first[0], first[1], -1);
        mill.launch(1, 1, second[0], second[1], -1);
        mill.step(1);
        due("isSound", mill.isSound(), true);
        return mill;
    }

    @Sentence(of = "Memory and units", says = "a unit has room for 4 groups, 64 registers and 32 shared cells at the same "
        + "time")
    static void unitHasRoomForFourGroups() {
        LaneMill single = filled(new int[] {6, 1, 1, 0}, new int[] {3, 1, 1, 0});
        due("eight of nine", single.given(0) + " " + single.given(1) + " / " + groups(single), "6 2 / 4 4");
        LaneMill four = filled(new int[] {2, 12, 1, 0}, new int[] {3, 4, 1, 0});
        due("3 and 1", four.given(1) + " / " + groups(four), "2 / 4 4");
        LaneMill five = filled(new int[] {2, 12, 1, 0}, new int[] {3, 5, 1, 0});
        due("3 and 2", five.given(1) + " / " + groups(five), "0 / 3 3");
    }

    @Sentence(of = "Memory and units", says = "a unit has room for 4 groups, 64 registers and 32 shared cells at the same "
        + "time")
    static void unitHasRoomFor64Registers() {
        LaneMill full = filled(new int[] {2, 7, 8, 0}, new int[] {3, 2, 4, 0});
        due("56 and 8", full.given(1) + " / " + groups(full), "2 / 3 3");
        LaneMill over = filled(new int[] {2, 7, 8, 0}, new int[] {3, 3, 3, 0});
        due("56 and 9", over.given(1) + " / " + groups(over), "0 / 2 2");
    }

    @Sentence(of = "Memory and units", says = "a unit has room for 4 groups, 64 registers and 32 shared cells at the same "
        + "time")
    static void unitHasRoomFor32SharedCells() {
        LaneMill full = filled(new int[] {4, 1, 1, 11}, new int[] {3, 1, 1, 10});
        due("22 and 10", full.given(0) + " " + full.given(1) + " / " + groups(full), "4 2 / 3 3");
        LaneMill over = filled(new int[] {4, 1, 1, 11}, new int[] {3, 1, 1, 11});
        due("22 and 11", over.given(0) + " " + over.given(1) + " / " + groups(over), "4 0 / 2 2");
        LaneMill once = filled(new int[] {2, 5, 1, 15}, new int[] {4, 1, 1, 9});
        due("15 of a block of two groups, and 9, but not 18", once.given(1) + " / " + groups(once), "2 / 3 3");
        LaneMill twice = filled(new int[] {2, 5, 1, 15}, new int[] {4, 1, 1, 8});
        due("15 of a block of two groups, and 16", twice.given(1) + " / " + groups(twice), "4 / 4 4");
    }

    // ---- Kernels

    @Sentence(of = "Kernels", says = "At most 4 kernels are numbered from 0.")
    static void fourKernels() {
        LaneMill mill = new LaneMill();
        refuses("none yet", INDEX, () -> mill.fits(0, 1));
        for (int i = 0; i < 4; i++) {
            due("number", mill.addKernel(1, 0), i);
        }
        refuses("one more", STATE, () -> mill.addKernel(1, 0));
        due("the last one", mill.fits(3, 1), 4);
        refuses("kernel 4", INDEX, () -> mill.fits(4, 1));
    }

    /** A kernel of as many instructions as told, the last one of them being this one. */
    private static String[] padded(int instructions, String last) {
        String[] lines = new String[instructions];
        for (int i = 0; i < instructions - 1; i++) {
            lines[i] = "k 0 5";
        }
        lines[instructions - 1] = last;
        return lines;
    }

    @Sentence(of = "Kernels", says = "A kernel has a number of registers for each thread, a number of shared cells for each "
        + "block, and at most 40 instructions, numbered from 0.")
    static void fortyInstructions() {
        LaneMill mill = new LaneMill();
        kernel(mill, 1, 0, padded(40, "w 0 0"));
        refuses("one more", STATE, () -> mill.code(0, 'e', 0, 0, 0));
        mill.launch(0, 0, 1, 1, -1);
        mill.step(39);
        due("at the last one", mill.place(0, 0) + " " + mill.peek(5), "39 0");
        due("the last one", mill.run(9) + " " + mill.peek(5), "1 5");
    }

    @Sentence(of = "Kernels", says = "A kernel has a number of registers for each thread, a number of shared cells for each "
        + "block, and at most 40 instructions, numbered from 0.")
    static void eachThreadHasItsRegistersAndEachBlockItsSharedCells() {
        LaneMill mill = launched(2, 8, 4, 2, "t 3", "k 0 1", "k 1 10", "n 2", "* 1 1 2", "W 0 1", "j 6");
        mill.setOrder('a');
        mill.step(30);
        StringBuilder text = new StringBuilder();
        for (int group = 0; group < 2; group++) {
            for (int lane = 0; lane < 4; lane++) {
                text.append(mill.register(0, group, lane, 3)).append(mill.register(1, group, lane, 3));
            }
        }
        due("threads", text.toString(), "0011223344556677");
        due("blocks", mill.shared(0, 0, 1) + " " + mill.shared(0, 1, 1) + " " + mill.shared(1, 1, 1), "0 0 10");
        due("cell 0", mill.shared(0, 0, 0) + mill.shared(1, 0, 0), 0);
    }

    @Sentence(of = "Kernels", says = "'k' the register a becomes b")
    static void registersTakeEachNumber() {
        for (int number : new int[] {0, 1, -1, LEAST, GREATEST}) {
            LaneMill mill = launched(1, 1, 2, 0, "k 1 " + number, "j 1");
            mill.step(1);
            due("k", mill.register(0, 0, 0, 1), number);
        }
    }

    @Sentence(of = "Kernels", says = "'+', '-', '*' the register a becomes the sum, the difference, the product of the registers b "
        + "and c")
    static void sumsDifferencesAndProducts() {
        due("7 and 3", reckoned('+', 7, 3) + " " + reckoned('-', 7, 3) + " " + reckoned('*', 7, 3), "10 4 21");
        due("3 and -7", reckoned('+', 3, -7) + " " + reckoned('-', 3, -7) + " " + reckoned('*', 3, -7), "-4 10 -21");
        LaneMill mill = launched(1, 1, 8, 0, "k 7 5", "+ 7 7 7", "* 7 7 7", "- 0 7 1", "- 7 7 7", "j 5");
        mill.step(3);
        due("a, b and c are the last register", mill.register(0, 0, 0, 7), 100);
        mill.step(3);
        due("and then none of it", mill.register(0, 0, 0, 0) + " " + mill.register(0, 0, 0, 7), "100 0");
    }

    @Sentence(of = "Kernels", says = "'r' the register a becomes the global cell whose number is the register b; 'w' the global cell "
        + "whose number is the register a becomes the register b")
    static void readsAndWritesOfCells() {
        for (int cell : new int[] {0, 1, 62, 63}) {
            LaneMill mill = launched(1, 1, 3, 0, "k 2 " + cell, "r 1 2", "k 0 -9", "w 2 0", "r 0 2");
            mill.poke(cell, 8);
            mill.step(2);
            due("r of " + cell, mill.register(0, 0, 0, 1) + " " + mill.register(0, 0, 0, 2), "8 " + cell);
            mill.run(99);
            due("w of " + cell, mill.peek(cell), -9);
        }
    }

    @Sentence(of = "Kernels", says = "'R', 'W' the same with shared cells of the block")
    static void readsAndWritesOfSharedCells() {
        for (int cell : new int[] {0, 1, 14, 15}) {
            LaneMill mill = launched(1, 1, 3, 16, "k 2 " + cell, "k 0 -9", "W 2 0", "R 1 2", "j 4");
            mill.poke(cell, 8);
            mill.step(4);
            due("W and R of " + cell, mill.shared(0, 0, cell) + " " + mill.register(0, 0, 0, 1), "-9 -9");
            due("the other one, and the global one", mill.shared(0, 0, 15 - cell) + " " + mill.peek(cell), "0 8");
        }
    }

    @Sentence(of = "Kernels", says = "'b' the thread waits at a barrier; 'f' a fence")
    static void barriersAndFences() {
        LaneMill mill = launched(1, 5, 1, 0, "b", "f", "j 2");
        mill.step(1);
        due("'b' does not let it go on", mill.reason(0, 0) + " " + mill.barriers(), "b 0");
        mill.step(2);
        due("'f' does", mill.place(0, 0) + " " + mill.place(0, 1) + " " + mill.barriers(), "2 1 1");
    }

    @Sentence(of = "Kernels", says = "'e' the thread ends")
    static void threadsEndByE() {
        LaneMill first = launched(1, 16, 1, 0, "e", "k 0 1");
        due("at the first instruction", first.run(99) + " " + first.state(0) + " " + first.lanes(), "4 d 16");
        LaneMill part = launched(1, 4, 1, 0, "l 0", "z 0 3", "e", "j 3");
        part.step(3);
        due("the lanes under the mask", part.mask(0, 0) + " " + part.place(0, 0) + " " + part.state(0), "1 3 r");
    }

    @Sentence(of = "Kernels", says = "'<', '=' the register a becomes 1 if the register b is less than the register c, or "
        + "equal to it, and 0 otherwise")
    static void lessAndEqual() {
        due("4 5", "" + reckoned('<', 4, 5) + reckoned('=', 4, 5), "10");
        due("5 5", "" + reckoned('<', 5, 5) + reckoned('=', 5, 5), "01");
        due("6 5", "" + reckoned('<', 6, 5) + reckoned('=', 6, 5), "00");
        due("-1 0", "" + reckoned('<', -1, 0) + reckoned('=', -1, 0), "10");
        LaneMill mill = launched(1, 1, 1, 0, "k 0 9", "< 0 0 0", "j 2");
        mill.step(2);
        due("a 0 behind another number", mill.register(0, 0, 0, 0), 0);
    }

    @Sentence(of = "Kernels", says = "'t', 'n', 'l' the register a becomes the number of the thread in its block, of the "
        + "block in its launch, of the lane in its group")
    static void firstAndLastThreadBlockAndLane() {
        LaneMill mill = launched(6, 4, 4, 0, "t 0", "n 1", "l 2", "j 3");
        mill.setOrder('a');
        mill.step(20);
        due("the block 5", threads(mill, 1), "100 300 500");
        due("the first", mill.register(0, 0, 0, 0) + " " + mill.register(0, 0, 0, 1) + " " + mill.register(0, 0, 0, 2),
            "0 0 0");
        due("the last", mill.register(1, 2, 3, 0) + " " + mill.register(1, 2, 3, 1) + " " + mill.register(1, 2, 3, 2),
            "3 5 3");
        LaneMill wide = launched(1, 16, 4, 0, "t 0", "n 1", "l 2", "j 3");
        wide.setOrder('a');
        wide.step(20);
        due("the thread 15", wide.register(0, 3, 3, 0) + " " + wide.register(0, 3, 3, 2), "15 3");
        due("the thread 12", wide.register(0, 3, 0, 0) + " " + wide.register(0, 3, 0, 2), "12 0");
    }

    @Sentence(of = "Kernels", says = "'z' if the register a is 0, the place becomes b")
    static void zGoesFor0Alone() {
        for (int value : new int[] {0, 1, -1, LEAST, GREATEST}) {
            LaneMill mill = launched(1, 1, 1, 0, "k 0 " + value, "z 0 3", "j 2", "j 3");
            mill.step(2);
            due("z of " + value, mill.place(0, 0), value == 0 ? 3 : 2);
        }
    }

    @Sentence(of = "Kernels", says = "'j' the place becomes b")
    static void jGoesToTheFirstAndTheLastPlace() {
        LaneMill mill = new LaneMill();
        kernel(mill, 1, 0, padded(40, "j 0"));
        mill.launch(0, 0, 1, 1, -1);
        mill.step(40);
        due("to 0", mill.place(0, 0), 0);
        String[] lines = padded(40, "j 39");
        lines[0] = "j 39";
        LaneMill last = launched(1, 1, 1, 0, lines);
        last.step(1);
        due("to 39", last.place(0, 0), 39);
        due("it goes on", last.step(5) + " " + last.place(0, 0), "5 39");
    }

    @Sentence(of = "Kernels", says = "as lower lanes have left it, and then this cell is increased by the register c, or "
        + "becomes the register c")
    static void lanesLeaveCellsToHigherOnes() {
        LaneMill add = launched(1, 4, 3, 0, "l 0", "a 1 2 0", "j 2");
        add.poke(0, 5);
        add.step(2);
        due("a", registers(add, 1, 4) + " / " + add.peek(0), "5 5 6 8 / 11");
        LaneMill exchange = launched(1, 4, 3, 0, "l 0", "x 1 2 0", "j 2");
        exchange.poke(0, 5);
        exchange.step(2);
        due("x", registers(exchange, 1, 4) + " / " + exchange.peek(0), "5 0 1 2 / 3");
    }

    @Sentence(of = "Kernels", says = "where the register c is taken as it was ahead of the instruction")
    static void theRegisterOfTheOldCellMayBeTheOneThatIsTaken() {
        LaneMill add = launched(1, 2, 2, 0, "k 1 3", "a 1 0 1", "j 2");
        add.poke(0, 10);
        add.step(2);
        due("a", registers(add, 1, 2) + " / " + add.peek(0), "10 13 / 16");
        LaneMill exchange = launched(1, 2, 2, 0, "k 1 3", "x 1 0 1", "j 2");
        exchange.poke(0, 10);
        exchange.step(2);
        due("x", registers(exchange, 1, 2) + " / " + exchange.peek(0), "10 3 / 3");
        LaneMill all = launched(1, 1, 1, 0, "k 0 9", "a 0 0 0", "j 2");
        all.poke(9, 100);
        all.step(2);
        due("a, b and c are one", all.register(0, 0, 0, 0) + " " + all.peek(9), "100 109");
    }

    @Sentence(of = "Kernels", says = "'v' the register a becomes the sum of 2 to the power of the lane, over all lanes under "
        + "the mask whose register b is not 0")
    static void votesOfNoneOfAllAndOfSome() {
        for (int number : new int[] {0, 1, -1, LEAST, GREATEST}) {
            LaneMill mill = launched(1, 4, 2, 0, "k 1 " + number, "v 0 1", "j 2");
            mill.step(2);
            due("v of " + number, registers(mill, 0, 4), number == 0 ? "0 0 0 0" : "15 15 15 15");
        }
        LaneMill lane = launched(1, 4, 3, 0, "l 0", "k 1 3", "= 2 0 1", "v 2 2", "j 4");
        lane.step(4);
        due("the lane 3 alone", registers(lane, 2, 4), "8 8 8 8");
        LaneMill few = launched(1, 1, 1, 0, "k 0 5", "v 0 0", "j 2");
        few.step(2);
        due("of one lane", few.register(0, 0, 0, 0), 1);
    }

    /** The lane 0 leaves the mask by an instruction, 'e' or 'b'; then the others vote. */
    @Sentence(of = "Kernels", says = "over all lanes under the mask whose register b is not 0")
    static void lanesThatAreNotUnderTheMaskDoNotVote() {
        for (String leave : new String[] {"e", "b"}) {
            LaneMill mill = launched(1, 4, 2, 0, "k 1 1", "l 0", "z 0 4", "j 5", leave, "v 0 1", "j 6");
            mill.step(6);
            due("v behind " + leave, registers(mill, 0, 4), "0 14 14 14");
        }
        LaneMill apart = launched(1, 4, 2, 0, "l 0", "k 1 1", "z 0 4", "v 0 1", "j 4");
        apart.step(4);
        due("v at another place", registers(apart, 0, 4), "0 14 14 14");
    }

    @Sentence(of = "Kernels", says = "'s' the register a becomes the register b of the lane whose number is the register c "
        + "modulo 4, from 0 to 3 also for numbers less than 0")
    static void lanesAreTakenModulo4() {
        int[][] rows = {{0, 0}, {1, 1}, {3, 3}, {4, 0}, {5, 1}, {7, 3}, {-1, 3}, {-2, 2}, {-3, 1}, {-4, 0}, {-5, 3},
            {LEAST, 0}, {LEAST + 1, 1}, {GREATEST, 3}};
        for (int[] row : rows) {
            LaneMill mill = launched(1, 4, 3, 0, "l 0", "k 1 " + row[0], "s 2 0 1", "j 3");
            mill.step(3);
            String lane = "" + row[1];
            due("s of " + row[0], registers(mill, 2, 4), lane + " " + lane + " " + lane + " " + lane);
        }
    }

    @Sentence(of = "Kernels", says = "if that lane is under the mask, and that of the own lane otherwise")
    static void aLaneThatIsNotUnderTheMaskIsReplacedByTheOwnOne() {
        LaneMill few = launched(1, 2, 3, 0, "l 0", "k 1 2", "s 2 0 1", "j 3");
        few.step(3);
        due("no thread in the lane 2", registers(few, 2, 2), "0 1");
        LaneMill there = launched(1, 3, 3, 0, "l 0", "k 1 2", "s 2 0 1", "j 3");
        there.step(3);
        due("one in the lane 2", registers(there, 2, 3), "2 2 2");
        LaneMill apart = launched(1, 4, 3, 0, "l 0", "z 0 4", "k 1 4", "s 2 0 1", "j 4");
        apart.step(4);
        due("at another place", registers(apart, 2, 4), "0 1 2 3");
        for (String leave : new String[] {"e", "b"}) {
            LaneMill mill = launched(1, 4, 3, 0, "l 0", "z 0 3", "j 4", leave, "k 1 0", "s 2 0 1", "j 6");
            mill.step(6);
            due("s behind " + leave, registers(mill, 2, 4), "0 1 2 3");
        }
    }

    @Sentence(of = "Kernels", says = "For 'v' and 's', all registers are taken as they were ahead of the instruction.")
    static void votesAndShufflesTakeRegistersAsTheyWere() {
        LaneMill vote = launched(1, 4, 2, 0, "l 0", "k 1 1", "< 0 0 1", "v 0 0", "j 4");
        vote.step(4);
        due("the lane 0 alone", registers(vote, 0, 4), "1 1 1 1");
        LaneMill zero = launched(1, 4, 2, 0, "l 0", "k 1 3", "= 0 0 1", "v 0 0", "j 4");
        zero.step(4);
        due("lower lanes become 8 ahead of it", registers(zero, 0, 4), "8 8 8 8");
        LaneMill back = launched(1, 4, 2, 0, "l 0", "k 1 3", "+ 1 0 1", "s 0 0 1", "j 4");
        back.step(4);
        due("of the lane below", registers(back, 0, 4), "3 0 1 2");
        LaneMill same = launched(1, 4, 1, 0, "l 0", "s 0 0 0", "j 2");
        same.step(2);
        due("a, b and c are one", registers(same, 0, 4), "0 1 2 3");
    }

    @Sentence(of = "Kernels", says = "'c' a child is launched, of the kernel b, with one block of as many threads as the "
        + "register c tells; the register a becomes 1, or 0 if the child is refused")
    static void childrenOfOneAndOfSixteenThreads() {
        for (int threads : new int[] {0, 1, 16, 17}) {
            LaneMill mill = new LaneMill();
            kernel(mill, 1, 0, "k 0 " + threads, "c 0 1 0", "j 2");
            kernel(mill, 1, 0, "j 0");
            mill.launch(0, 0, 1, 1, -1);
            mill.step(2);
            boolean isChild = threads == 1 || threads == 16;
            due("c of " + threads, mill.register(0, 0, 0, 0) + " " + mill.launches(), isChild ? "1 2" : "0 1");
            mill.step(1);
            due("groups of " + threads, mill.groups(1), threads == 1 ? 1 : threads == 16 ? 4 : 0);
            if (isChild) {
                due("given", mill.given(1), 1);
            }
        }
    }

    // ---- Threads, groups, masks

    @Sentence(of = "Threads, groups, masks", says = "A block has 1 to 16 threads, numbered from 0; the threads 4 times g up to "
        + "4 times g plus 3 are the lanes 0 to 3 of its group g.")
    static void blocksOfOneToSixteenThreads() {
        for (int threads = 1; threads <= 16; threads++) {
            LaneMill mill = launched(1, threads, 1, 0, "j 0");
            mill.step(1);
            int groups = (threads + 3) / 4;
            due("groups of " + threads, mill.groups(0), groups);
            due("first threads of " + threads, threads(mill, 0), "0 4 8 12".substring(0, new int[] {1, 3, 5, 8}[groups - 1]));
            int last = threads - 4 * (groups - 1);
            due("lanes of the last group of " + threads, mill.mask(0, groups - 1), (1 << last) - 1);
            due("lanes of the first group of " + threads, mill.mask(0, 0), groups > 1 ? 15 : (1 << last) - 1);
        }
    }

    @Sentence(of = "Threads, groups, masks", says = "A thread has a place, 0 at first, and registers, 0 at first.")
    static void threadsBeginAtThePlace0With0InTheirRegisters() {
        LaneMill mill = launched(1, 5, 8, 0, "k 7 7", "j 1");
        mill.step(1);
        due("the group 0 has begun", mill.place(0, 0) + " " + mill.register(0, 0, 0, 7), "1 7");
        due("the group 1 has not", mill.place(0, 1), 0);
        for (int register = 0; register < 8; register++) {
            due("register " + register, mill.register(0, 1, 0, register), 0);
        }
    }

    @Sentence(of = "Threads, groups, masks", says = "A thread has a place, 0 at first, and registers, 0 at first.")
    static void threadsOfLaterBlocksBeginWith0AsWell() {
        LaneMill mill = launched(3, 16, 2, 0, "w 1 0", "k 0 9");
        mill.poke(0, 5);
        mill.run(99);
        due("each block writes 0", mill.state(0) + " " + mill.peek(0), "d 0");
    }

    @Sentence(of = "Threads, groups, masks", says = "A thread runs, waits at a barrier, or has ended")
    static void oneThreadRunsOneWaitsOneHasEnded() {
        LaneMill mill = launched(1, 3, 2, 0, "l 0", "z 0 5", "k 1 1", "= 1 0 1", "z 1 7", "b", "e", "j 7");
        // The lane 0 waits at 5, the lane 1 too, and the lane 2 runs at 7.
        mill.step(6);
        due("two wait", mill.mask(0, 0) + " " + mill.places(0, 0) + mill.reason(0, 0) + mill.barriers(), "4 1-0");
        LaneMill ends = launched(1, 3, 2, 0, "l 0", "z 0 7", "k 1 1", "= 1 0 1", "z 1 6", "b", "e", "j 7");
        ends.step(7);
        due("one waits, one has ended, one runs", ends.mask(0, 0) + " " + ends.place(0, 0) + ends.reason(0, 0)
            + ends.barriers(), "1 7-0");
    }

    @Sentence(of = "Threads, groups, masks", says = "one whose place is no instruction of its kernel ends at once")
    static void threadsEndBehindTheLastInstruction() {
        LaneMill mill = launched(1, 1, 1, 0, "k 0 1", "k 0 1");
        mill.step(1);
        due("at the last one", mill.state(0) + " " + groups(mill), "r 1 0");
        mill.step(1);
        due("behind it", mill.state(0) + " " + groups(mill), "d 0 0");
        LaneMill passed = launched(1, 1, 1, 0, "k 0 1", "b");
        passed.step(2);
        due("behind a barrier", passed.state(0) + " " + passed.barriers(), "d 1");
    }

    @Sentence(of = "Threads, groups, masks", says = "one whose place is no instruction of its kernel ends at once")
    static void threadsEndWhereTheyGoToNoInstruction() {
        for (int place : new int[] {0, 1, 2, 3, 39}) {
            LaneMill jump = launched(1, 1, 1, 0, "j " + place, "j 1");
            jump.step(1);
            due("j to " + place, jump.state(0), place < 2 ? 'r' : 'd');
            LaneMill zero = launched(1, 1, 1, 0, "z 0 " + place, "j 1");
            zero.step(1);
            due("z to " + place, zero.state(0), place < 2 ? 'r' : 'd');
        }
        LaneMill part = launched(1, 4, 1, 0, "l 0", "z 0 3", "j 2");
        part.step(2);
        due("one lane ends, the others go on", part.mask(0, 0) + " " + part.places(0, 0) + " " + part.state(0), "14 1 r");
    }

    @Sentence(of = "Threads, groups, masks", says = "one whose place is no instruction of its kernel ends at once, also as its "
        + "block is given to a unit")
    static void threadsOfAnEmptyKernelEndAsTheirBlockIsGiven() {
        LaneMill mill = new LaneMill();
        mill.addKernel(1, 16);
        mill.launch(0, 0, 1, 16, -1);
        mill.launch(1, 0, 6, 1, 0);
        due("no instruction", mill.step(1), 0);
        due("done at once", states(mill) + " " + mill.given(0) + " / " + groups(mill), "dq 1 / 0 0");
        mill.step(1);
        due("the next one", states(mill) + " " + mill.given(1), "dd 6");
        refuses("no instruction of groups", ARITHMETIC, mill::usedShare);
    }

    @Sentence(of = "Threads, groups, masks", says = "a block that has ended leaves at once, and its room is free then")
    static void roomIsFreeAtOnceForBlocksOfAnEmptyKernel() {
        LaneMill mill = new LaneMill();
        mill.addKernel(4, 16);
        mill.launch(0, 0, 6, 16, -1);
        mill.step(1);
        due("six in one cycle", mill.given(0) + " " + mill.state(0), "6 d");
    }

    @Sentence(of = "Threads, groups, masks", says = "a block that has ended leaves at once, and its room is free then")
    static void blocksLeaveWithTheirLastThread() {
        LaneMill mill = launched(3, 5, 8, 0, "k 0 1");
        mill.step(1);
        due("the first groups have ended", groups(mill) + " " + mill.reason(0, 0) + mill.reason(0, 1), "2 2 e-");
        mill.step(1);
        due("both blocks have left", groups(mill) + " " + mill.given(0) + mill.state(0), "0 0 2r");
        mill.step(1);
        due("their room is free in the next cycle", groups(mill) + " " + threads(mill, 0), "2 0 200 204");
    }

    /** The lane 0 stays at 4 by an instruction, 'e' or 'b'; the others go from 3 to 6. */
    @Sentence(of = "Threads, groups, masks", says = "The place of a group is the least place of its threads that run; its mask "
        + "are all of its threads that run at this place.")
    static void threadsThatWaitOrHaveEndedAreNotUnderTheMask() {
        for (String leave : new String[] {"e", "b"}) {
            LaneMill mill = launched(1, 4, 1, 0, "l 0", "z 0 3", "j 4", leave, "k 0 1", "j 5");
            mill.step(3);
            due("at two places", mill.place(0, 0) + " " + mill.mask(0, 0) + " " + mill.places(0, 0), "3 1 2");
            mill.step(1);
            due("behind " + leave, mill.place(0, 0) + " " + mill.mask(0, 0) + " " + mill.places(0, 0), "4 14 1");
        }
    }

    @Sentence(of = "Threads, groups, masks", says = "The place of a group is the least place of its threads that run; its mask "
        + "are all of its threads that run at this place.")
    static void threadsThatComeToTheSamePlaceGoOnTogether() {
        LaneMill mill = launched(1, 4, 2, 0, "l 0", "z 0 4", "k 1 1", "j 4", "k 1 2", "j 5");
        mill.step(2);
        due("apart", mill.place(0, 0) + " " + mill.mask(0, 0) + " " + mill.places(0, 0), "2 14 2");
        mill.step(2);
        due("together", mill.place(0, 0) + " " + mill.mask(0, 0) + " " + mill.places(0, 0), "4 15 1");
        mill.step(1);
        due("all four", registers(mill, 1, 4), "2 2 2 2");
    }

    @Sentence(of = "Threads, groups, masks", says = "When a group carries out an instruction, its lanes under the mask do so by "
        + "rising numbers")
    static void lanesGoByRisingNumbers() {
        LaneMill write = launched(1, 4, 2, 0, "l 0", "w 1 0", "f", "j 3");
        write.step(3);
        due("the last write is that of the lane 3", write.peek(0), 3);
        LaneMill shared = launched(1, 4, 2, 1, "l 0", "W 1 0", "j 2");
        shared.step(2);
        due("also to shared cells", shared.shared(0, 0, 0), 3);
        LaneMill child = new LaneMill();
        kernel(child, 2, 0, "l 0", "c 1 1 0", "j 2");
        kernel(child, 1, 0, "j 0");
        child.launch(0, 0, 1, 4, -1);
        child.step(3);
        due("told", registers(child, 1, 4), "0 1 1 1");
        due("threads of the children 1, 2 and 3", child.mask(1, 0) + " " + child.mask(0, 1) + " " + child.mask(1, 1), "1 3 7");
        due("they are", threads(child, 0) + " / " + threads(child, 1), "0 2000 / 1000 3000");
    }

    @Sentence(of = "Threads, groups, masks", says = "behind 'z', 'j', 'b' and 'e' as told, otherwise the place of a thread "
        + "becomes the next number")
    static void placesBehindEachLetter() {
        for (char letter : "k+-*<=tnlrwRWaxvsfc".toCharArray()) {
            LaneMill mill = new LaneMill();
            mill.addKernel(1, 1);
            mill.code(0, letter, 0, 0, 0);
            kernelEnds(mill);
            due("place behind " + letter, mill.place(0, 0), 1);
        }
        LaneMill waits = launched(1, 5, 1, 0, "b", "j 1");
        waits.step(1);
        due("one that waits", waits.reason(0, 0) + " " + waits.mask(0, 0), "b 0");
        waits.step(1);
        due("behind the barrier", waits.place(0, 0) + " " + waits.place(0, 1), "1 1");
    }

    private static void kernelEnds(LaneMill mill) {
        mill.code(0, 'j', 0, 1, 0);
        mill.launch(0, 0, 1, 1, -1);
        mill.step(1);
    }
}
