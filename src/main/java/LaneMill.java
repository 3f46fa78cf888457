import java.util.Arrays;
import java.util.NoSuchElementException;

/**
 * A machine of many threads: the face checks what a call names, the ledger knows kernels and
 * launches, the core lets cycles come, and the replay runs a kernel's threads one after the other.
 */
public final class LaneMill {
    private static final int CELLS = 64;
    private static final int UNITS = 2;
    private static final int QUEUES = 2;
    private static final int LANES = 4;
    private static final int ROOM_GROUPS = 4;
    private static final int ROOM_REGISTERS = 64;
    private static final int ROOM_SHARED = 32;
    private static final int MOST_REGISTERS = 8;
    private static final int MOST_SHARED = 16;
    private static final int MOST_KERNELS = 4;
    private static final int MOST_INSTRUCTIONS = 40;
    private static final int MOST_LAUNCHES = 12;
    private static final int MOST_BLOCKS = 6;
    private static final int MOST_THREADS = 16;
    private static final int MOST_STEPS = 100;
    private static final int MOST_RUN = 500;
    private static final int NONE = -1;

    private final Ledger ledger = new Ledger();
    private final Core core = new Core(ledger);
    private final Replay replay = new Replay();

    public LaneMill() {
    }

    // ---- kernels and memory

    public int addKernel(int registers, int shared)
            throws IllegalArgumentException, IllegalStateException {
        if (!isWithin(registers, 1, MOST_REGISTERS) || !isWithin(shared, 0, MOST_SHARED)) {
            throw new IllegalArgumentException();
        }
        if (ledger.kernelCount >= MOST_KERNELS) {
            throw new IllegalStateException();
        }
        return ledger.enterKernel(new Kernel(registers, shared));
    }

    public int code(int kernel, char letter, int a, int b, int c)
            throws IndexOutOfBoundsException, IllegalArgumentException, IllegalStateException {
        Kernel target = kernelAt(kernel);
        Instruction instruction = new Instruction(letter, a, b, c);
        if (!instruction.isAllowed(target)) {
            throw new IllegalArgumentException();
        }
        if (target.length >= MOST_INSTRUCTIONS || target.wasLaunched) {
            throw new IllegalStateException();
        }
        return target.append(instruction);
    }

    public int fits(int kernel, int threads)
            throws IndexOutOfBoundsException, IllegalArgumentException {
        Kernel target = kernelAt(kernel);
        if (!isWithin(threads, 1, MOST_THREADS)) {
            throw new IllegalArgumentException();
        }
        return target.blocksInUnit(threads);
    }

    public int poke(int cell, int value) throws IndexOutOfBoundsException {
        if (!isCell(cell)) {
            throw new IndexOutOfBoundsException();
        }
        int before = core.memory[cell];
        core.memory[cell] = value;
        return before;
    }

    public int peek(int cell) throws IndexOutOfBoundsException {
        if (!isCell(cell)) {
            throw new IndexOutOfBoundsException();
        }
        return core.memory[cell];
    }

    // ---- launches

    public int launch(int queue, int kernel, int blocks, int threads, int after)
            throws IndexOutOfBoundsException, IllegalArgumentException,
            UnsupportedOperationException, IllegalStateException {
        checkQueueAndAfter(queue, after);
        Kernel target = kernelAt(kernel);
        if (!isWithin(blocks, 1, MOST_BLOCKS) || !isWithin(threads, 1, MOST_THREADS)) {
            throw new IllegalArgumentException();
        }
        if (target.blocksInUnit(threads) == 0) {
            throw new UnsupportedOperationException();
        }
        checkRoomForLaunch();
        Launch entered = ledger.enterHostLaunch(queue, after);
        entered.useKernel(target, blocks, threads);
        return entered.number;
    }

    public int copy(int queue, int from, int to, int cells, int after)
            throws IndexOutOfBoundsException, IllegalArgumentException, IllegalStateException {
        checkQueueAndAfter(queue, after);
        if (!isWithin(cells, 1, CELLS) || !isWithin(from, 0, CELLS - cells)
                || !isWithin(to, 0, CELLS - cells)) {
            throw new IllegalArgumentException();
        }
        checkRoomForLaunch();
        Launch entered = ledger.enterHostLaunch(queue, after);
        entered.useCopy(from, to, cells);
        return entered.number;
    }

    public int launches() {
        return ledger.launchCount;
    }

    public char state(int launch) throws IndexOutOfBoundsException {
        return launchAt(launch).state;
    }

    public int parent(int launch) throws IndexOutOfBoundsException, NoSuchElementException {
        Launch child = launchAt(launch);
        if (child.parent == null) {
            throw new NoSuchElementException();
        }
        return child.parent.number;
    }

    public int given(int launch) throws IndexOutOfBoundsException {
        return launchAt(launch).given;
    }

    public int step(int cycles) throws IllegalArgumentException {
        if (!isWithin(cycles, 1, MOST_STEPS)) {
            throw new IllegalArgumentException();
        }
        long before = core.figures.instructions;
        for (int i = 0; i < cycles; i++) {
            core.letCycleCome();
        }
        return (int) (core.figures.instructions - before);
    }

    public int run(int most) throws IllegalArgumentException {
        if (!isWithin(most, 1, MOST_RUN)) {
            throw new IllegalArgumentException();
        }
        int come = 0;
        while (come < most && !ledger.isAllOver()) {
            core.letCycleCome();
            come++;
        }
        return come;
    }

    public char setOrder(char order) throws IllegalArgumentException {
        if (order != 'o' && order != 'y' && order != 'a') {
            throw new IllegalArgumentException();
        }
        char before = core.order;
        core.order = order;
        return before;
    }

    public int cycle() {
        return core.cycle;
    }

    // ---- groups in units

    public int groups(int unit) throws IndexOutOfBoundsException {
        return unitAt(unit).count;
    }

    public int threadAt(int unit, int group) throws IndexOutOfBoundsException {
        Group found = groupAt(unit, group);
        return 1000 * found.block.launch.number + 100 * found.block.number + found.first;
    }

    public int place(int unit, int group)
            throws IndexOutOfBoundsException, NoSuchElementException {
        int least = groupAt(unit, group).leastPlace();
        if (least == NONE) {
            throw new NoSuchElementException();
        }
        return least;
    }

    public int mask(int unit, int group) throws IndexOutOfBoundsException {
        return groupAt(unit, group).lanesUnderMask();
    }

    public int places(int unit, int group) throws IndexOutOfBoundsException {
        return groupAt(unit, group).differentPlaces();
    }

    public char reason(int unit, int group) throws IndexOutOfBoundsException {
        return groupAt(unit, group).whyIdle(core.cycle);
    }

    public int register(int unit, int group, int lane, int register)
            throws IndexOutOfBoundsException {
        Group found = groupAt(unit, group);
        MillThread thread = found.threadIn(lane);
        if (thread == null || !found.block.launch.kernel.hasRegister(register)) {
            throw new IndexOutOfBoundsException();
        }
        return thread.at(register);
    }

    public int shared(int unit, int group, int cell) throws IndexOutOfBoundsException {
        Block block = groupAt(unit, group).block;
        if (!block.hasShared(cell)) {
            throw new IndexOutOfBoundsException();
        }
        return block.sharedCells[cell];
    }

    public int buffered(int unit, int group) throws IndexOutOfBoundsException {
        return groupAt(unit, group).writes;
    }

    // ---- faults and races

    public char fault(int launch) throws IndexOutOfBoundsException, NoSuchElementException {
        return failedAt(launch).fault;
    }

    public int faultAt(int launch) throws IndexOutOfBoundsException, NoSuchElementException {
        return failedAt(launch).faultPosition;
    }

    public boolean isRacing(int launch, int cell) throws IndexOutOfBoundsException {
        Launch found = launchAt(launch);
        if (!isCell(cell)) {
            throw new IndexOutOfBoundsException();
        }
        return found.racing[cell];
    }

    public int races(int launch) throws IndexOutOfBoundsException {
        return launchAt(launch).raceCount;
    }

    public int serial(int kernel, int blocks, int threads, boolean isFalling, int cell)
            throws IndexOutOfBoundsException, IllegalArgumentException,
            UnsupportedOperationException, IllegalStateException {
        Kernel target = kernelAt(kernel);
        if (!isCell(cell)) {
            throw new IndexOutOfBoundsException();
        }
        if (!isWithin(blocks, 1, MOST_BLOCKS) || !isWithin(threads, 1, MOST_THREADS)) {
            throw new IllegalArgumentException();
        }
        if (target.hasLetterOf("vsc")) {
            throw new UnsupportedOperationException();
        }
        replay.begin(target, threads, isFalling, core.memory);
        if (!replay.runBlocks(blocks)) {
            throw new IllegalStateException();
        }
        return replay.memory[cell];
    }

    // ---- figures

    public long lanes() {
        return core.figures.laneInstructions;
    }

    public int misses() {
        return core.figures.missedLines;
    }

    public int lost() {
        return core.figures.lostCycles;
    }

    public int barriers() {
        return core.figures.passedBarriers;
    }

    public int refused() {
        return core.figures.refusedChildren;
    }

    public float usedShare() throws ArithmeticException {
        long possible = LANES * core.figures.instructions;
        if (possible == 0) {
            throw new ArithmeticException();
        }
        return (float) core.figures.laneInstructions / (float) possible;
    }

    public double meanDelay() throws ArithmeticException {
        long number = core.figures.delays;
        if (number == 0) {
            throw new ArithmeticException();
        }
        return (double) core.figures.delaySum / (double) number;
    }

    public boolean isSound() {
        for (int i = 0; i < UNITS; i++) {
            if (!core.units[i].isInOrder()) {
                return false;
            }
        }
        return true;
    }

    // ---- what a call names

    private Kernel kernelAt(int number) {
        Kernel found = ledger.kernelOf(number);
        if (found == null) {
            throw new IndexOutOfBoundsException();
        }
        return found;
    }

    private Launch launchAt(int number) {
        Launch found = ledger.launchOf(number);
        if (found == null) {
            throw new IndexOutOfBoundsException();
        }
        return found;
    }

    private Launch failedAt(int number) {
        Launch found = launchAt(number);
        if (found.state != Launch.FAILED) {
            throw new NoSuchElementException();
        }
        return found;
    }

    private Unit unitAt(int number) {
        if (!isWithin(number, 0, UNITS - 1)) {
            throw new IndexOutOfBoundsException();
        }
        return core.units[number];
    }

    private Group groupAt(int unit, int group) {
        Group found = unitAt(unit).groupOf(group);
        if (found == null) {
            throw new IndexOutOfBoundsException();
        }
        return found;
    }

    private void checkQueueAndAfter(int queue, int after) {
        if (!isWithin(queue, 0, QUEUES - 1)) {
            throw new IndexOutOfBoundsException();
        }
        if (after != NONE) {
            launchAt(after);
        }
    }

    private void checkRoomForLaunch() {
        if (ledger.launchCount >= MOST_LAUNCHES) {
            throw new IllegalStateException();
        }
    }

    private static boolean isWithin(int number, int least, int most) {
        return number >= least && number <= most;
    }

    private static boolean isCell(int number) {
        return isWithin(number, 0, CELLS - 1);
    }

    private static boolean isIn(int mask, int lane) {
        return (mask >> lane & 1) != 0;
    }

    private static int groupsFor(int threads) {
        return (threads + LANES - 1) / LANES;
    }

    /*
     * The touches of a cell hold in the lower half who accessed it, in the upper half who wrote
     * it. An access is compared with the earlier ones alone, as each pair has a later one.
     */
    private static boolean isClash(int touches, int who, boolean isWrite) {
        int rivals = isWrite ? touches & 0xFFFF : touches >>> 16;
        return (rivals & ~(1 << who)) != 0;
    }

    private static int withTouch(int touches, int who, boolean isWrite) {
        int all = touches | 1 << who;
        return isWrite ? all | 1 << 16 + who : all;
    }

    /** Carries out 'a' or 'x' of one thread on a memory. */
    private static void exchange(int[] memory, int cell, MillThread thread, Instruction told) {
        int before = memory[cell];
        int operand = thread.at(told.c);
        memory[cell] = told.letter == 'a' ? before + operand : operand;
        thread.set(told.a, before);
    }

    /** One instruction of a kernel. */
    private static final class Instruction {
        private static final String LETTERS = "k+-*<=tnlzjrwRWaxvsbfce";
        private static final String A_IS_REGISTER = "k+-*<=tnlzrwRWaxvsc";
        private static final String B_IS_REGISTER = "+-*<=rwRWaxvs";
        private static final String C_IS_REGISTER = "+-*<=axsc";
        private static final String B_IS_PLACE = "zj";
        private static final String A_IS_CELL = "wW";

        final char letter;
        final int a;
        final int b;
        final int c;

        Instruction(char letter, int a, int b, int c) {
            this.letter = letter;
            this.a = a;
            this.b = b;
            this.c = c;
        }

        boolean isOneOf(String letters) {
            return letters.indexOf(letter) >= 0;
        }

        boolean isAllowed(Kernel kernel) {
            if (!isOneOf(LETTERS)
                    || isOneOf(A_IS_REGISTER) && !kernel.hasRegister(a)
                    || isOneOf(B_IS_REGISTER) && !kernel.hasRegister(b)
                    || isOneOf(C_IS_REGISTER) && !kernel.hasRegister(c)) {
                return false;
            }
            if (isOneOf(B_IS_PLACE)) {
                return isWithin(b, 0, MOST_INSTRUCTIONS - 1);
            }
            return letter != 'c' || isWithin(b, 0, MOST_KERNELS - 1);
        }

        int cellRegister() {
            return isOneOf(A_IS_CELL) ? a : b;
        }
    }

    /** The code of a kernel, and what its threads and blocks need. */
    private static final class Kernel {
        final int registers;
        final int sharedCells;
        private final Instruction[] instructions = new Instruction[MOST_INSTRUCTIONS];
        int length;
        boolean wasLaunched;

        Kernel(int registers, int sharedCells) {
            this.registers = registers;
            this.sharedCells = sharedCells;
        }

        int append(Instruction instruction) {
            if (length < instructions.length) {
                instructions[length] = instruction;
                length++;
            }
            return length - 1;
        }

        Instruction instructionAt(int number) {
            return isWithin(number, 0, length - 1) ? instructions[number] : null;
        }

        boolean hasRegister(int number) {
            return isWithin(number, 0, registers - 1);
        }

        boolean hasLetterOf(String letters) {
            for (int i = 0; i < length; i++) {
                if (instructions[i].isOneOf(letters)) {
                    return true;
                }
            }
            return false;
        }

        /** How many blocks fit into an empty unit; none does of a size that no block has. */
        int blocksInUnit(int threads) {
            if (!isWithin(threads, 1, MOST_THREADS) || registers < 1) {
                return 0;
            }
            int most = Math.min(ROOM_GROUPS / groupsFor(threads),
                    ROOM_REGISTERS / (threads * registers));
            return sharedCells < 1 ? most : Math.min(most, ROOM_SHARED / sharedCells);
        }
    }

    /** A thread: its registers, its place, and whether it runs, waits or has ended. */
    private static final class MillThread {
        private static final char RUNS = 'r';
        private static final char WAITS = 'w';
        private static final char ENDED = 'e';

        final int number;
        private final int[] registers;
        private int block;
        int place;
        private char condition;

        MillThread(int number, int registers) {
            this.number = number;
            this.registers = new int[Math.max(registers, 0)];
        }

        void begin(int ownBlock, int length) {
            block = ownBlock;
            Arrays.fill(registers, 0);
            condition = RUNS;
            goTo(0, length);
        }

        boolean isRunning() {
            return condition == RUNS;
        }

        boolean isWaiting() {
            return condition == WAITS;
        }

        boolean isEnded() {
            return condition == ENDED;
        }

        int at(int register) {
            return register >= 0 && register < registers.length ? registers[register] : 0;
        }

        void set(int register, int value) {
            if (register >= 0 && register < registers.length) {
                registers[register] = value;
            }
        }

        /** Does what an instruction asks of the thread's own registers. */
        void reckon(Instruction told) {
            switch (told.letter) {
                case 'k':
                    set(told.a, told.b);
                    break;
                case '+':
                    set(told.a, at(told.b) + at(told.c));
                    break;
                case '-':
                    set(told.a, at(told.b) - at(told.c));
                    break;
                case '*':
                    set(told.a, at(told.b) * at(told.c));
                    break;
                case '<':
                    set(told.a, at(told.b) < at(told.c) ? 1 : 0);
                    break;
                case '=':
                    set(told.a, at(told.b) == at(told.c) ? 1 : 0);
                    break;
                case 't':
                    set(told.a, number);
                    break;
                case 'n':
                    set(told.a, block);
                    break;
                case 'l':
                    set(told.a, number % LANES);
                    break;
                default:
                    break;
            }
        }

        /** Lets the thread go to where it is behind an instruction of a kernel of this length. */
        void goOn(Instruction told, int length) {
            if (told.letter == 'b') {
                condition = WAITS;
            } else if (told.letter == 'e') {
                condition = ENDED;
            } else if (told.letter == 'j' || told.letter == 'z' && at(told.a) == 0) {
                goTo(told.b, length);
            } else {
                goTo(place + 1, length);
            }
        }

        private void goTo(int next, int length) {
            place = next;
            if (next < 0 || next >= length) {
                condition = ENDED;
            }
        }

        static boolean isAnyRunning(MillThread[] threads, int size) {
            for (int i = 0; i < size && i < threads.length; i++) {
                if (threads[i].isRunning()) {
                    return true;
                }
            }
            return false;
        }

        static MillThread lowestOfWaiting(MillThread[] threads, int size) {
            for (int i = 0; i < size && i < threads.length; i++) {
                if (threads[i].isWaiting()) {
                    return threads[i];
                }
            }
            return null;
        }

        /** Lets all that wait go on, if they wait at this place; answers whether they do. */
        static boolean release(MillThread[] threads, int size, int at, int length) {
            for (int i = 0; i < size && i < threads.length; i++) {
                if (threads[i].isWaiting() && threads[i].place != at) {
                    return false;
                }
            }
            for (int i = 0; i < size && i < threads.length; i++) {
                if (threads[i].isWaiting()) {
                    threads[i].condition = RUNS;
                    threads[i].goTo(at + 1, length);
                }
            }
            return true;
        }
    }

    /** Up to four threads of a block that go together, with the buffer of their writes. */
    private static final class Group {
        private static final int ROOM_WRITES = 4;

        final Block block;
        final int first;
        private final MillThread[] threads;
        private final int[] cells = new int[ROOM_WRITES];
        private final int[] values = new int[ROOM_WRITES];
        int writes;
        int readyAt;

        Group(Block block, int first) {
            this.block = block;
            this.first = first;
            threads = new MillThread[LANES];
            for (int lane = 0; lane < LANES && first + lane < block.threads.length; lane++) {
                threads[lane] = block.threads[first + lane];
            }
        }

        /** The thread in a lane, or null if there is none. */
        MillThread threadIn(int lane) {
            return lane >= 0 && lane < LANES ? threads[lane] : null;
        }

        private int placeIn(int lane) {
            MillThread thread = threadIn(lane);
            return thread != null && thread.isRunning() ? thread.place : NONE;
        }

        int leastPlace() {
            int least = NONE;
            for (int lane = 0; lane < LANES; lane++) {
                int place = placeIn(lane);
                if (place != NONE && (least == NONE || place < least)) {
                    least = place;
                }
            }
            return least;
        }

        int lanesUnderMask() {
            int least = leastPlace();
            int lanes = 0;
            for (int lane = 0; lane < LANES; lane++) {
                if (least != NONE && placeIn(lane) == least) {
                    lanes |= 1 << lane;
                }
            }
            return lanes;
        }

        int differentPlaces() {
            int different = 0;
            for (int lane = 0; lane < LANES; lane++) {
                if (placeIn(lane) != NONE && !isPlaceOfLower(lane)) {
                    different++;
                }
            }
            return different;
        }

        private boolean isPlaceOfLower(int lane) {
            for (int lower = 0; lower < lane; lower++) {
                if (placeIn(lower) == placeIn(lane)) {
                    return true;
                }
            }
            return false;
        }

        boolean hasEnded() {
            for (int lane = 0; lane < LANES; lane++) {
                MillThread thread = threadIn(lane);
                if (thread != null && !thread.isEnded()) {
                    return false;
                }
            }
            return true;
        }

        boolean canAct(int cycle) {
            return leastPlace() != NONE && cycle >= readyAt;
        }

        char whyIdle(int cycle) {
            if (leastPlace() == NONE) {
                return hasEnded() ? 'e' : 'b';
            }
            return cycle < readyAt ? 'd' : '-';
        }

        boolean isBufferFull() {
            return writes >= ROOM_WRITES;
        }

        boolean isBufferWithinRoom() {
            return writes <= ROOM_WRITES;
        }

        void putWrite(int cell, int value) {
            if (!isBufferFull()) {
                cells[writes] = cell;
                values[writes] = value;
                writes++;
            }
        }

        /** What the group sees in a cell: its own last write, or else the memory. */
        int seenIn(int cell, int[] memory) {
            for (int i = writes - 1; i >= 0; i--) {
                if (cells[i] == cell) {
                    return values[i];
                }
            }
            return memory[cell];
        }

        void writeFirst(int[] memory) {
            if (writes == 0) {
                return;
            }
            memory[cells[0]] = values[0];
            writes--;
            System.arraycopy(cells, 1, cells, 0, writes);
            System.arraycopy(values, 1, values, 0, writes);
        }

        int writeAll(int[] memory) {
            int written = writes;
            for (int i = 0; i < written; i++) {
                memory[cells[i]] = values[i];
            }
            writes = 0;
            return written;
        }
    }

    /** A block in a unit: its threads and groups, its shared cells, and who touched which cell. */
    private static final class Block {
        final Launch launch;
        final int number;
        final MillThread[] threads;
        final Group[] groups;
        final int[] sharedCells;
        private final int[] touches = new int[CELLS];
        private final int[] sharedTouches;
        private final boolean[] sharedRacing;

        private Block(Launch launch, int number) {
            this.launch = launch;
            this.number = number;
            threads = new MillThread[launch.threads];
            for (int i = 0; i < threads.length; i++) {
                threads[i] = new MillThread(i, launch.kernel.registers);
                threads[i].begin(number, launch.kernel.length);
            }
            groups = new Group[groupsFor(launch.threads)];
            sharedCells = new int[launch.kernel.sharedCells];
            sharedTouches = new int[launch.kernel.sharedCells];
            sharedRacing = new boolean[launch.kernel.sharedCells];
        }

        /** The groups are formed here, as they need the whole block. */
        static Block nextOf(Launch launch) {
            Block block = new Block(launch, launch.given);
            for (int i = 0; i < block.groups.length; i++) {
                block.groups[i] = new Group(block, LANES * i);
            }
            launch.given++;
            return block;
        }

        boolean hasShared(int cell) {
            return isWithin(cell, 0, sharedCells.length - 1);
        }

        boolean isAllEnded() {
            return !MillThread.isAnyRunning(threads, threads.length)
                    && MillThread.lowestOfWaiting(threads, threads.length) == null;
        }

        boolean isAllWaiting() {
            return !MillThread.isAnyRunning(threads, threads.length)
                    && MillThread.lowestOfWaiting(threads, threads.length) != null;
        }

        MillThread lowestWaiting() {
            return MillThread.lowestOfWaiting(threads, threads.length);
        }

        /** Answers whether the block passes; accesses ahead of a barrier clash with no later own. */
        boolean passBarrier(int place) {
            if (!MillThread.release(threads, threads.length, place, launch.kernel.length)) {
                return false;
            }
            Arrays.fill(touches, 0);
            Arrays.fill(sharedTouches, 0);
            return true;
        }

        void touchGlobal(int thread, int cell, boolean isWrite) {
            if (isClash(touches[cell], thread, isWrite)
                    || isClash(launch.touches[cell], number, isWrite)) {
                launch.markRace(cell);
            }
            touches[cell] = withTouch(touches[cell], thread, isWrite);
            launch.touches[cell] = withTouch(launch.touches[cell], number, isWrite);
        }

        void touchShared(int thread, int cell, boolean isWrite) {
            if (isClash(sharedTouches[cell], thread, isWrite) && !sharedRacing[cell]) {
                sharedRacing[cell] = true;
                launch.raceCount++;
            }
            sharedTouches[cell] = withTouch(sharedTouches[cell], thread, isWrite);
        }

        void writeEndedGroups(int[] memory) {
            for (int i = 0; i < groups.length; i++) {
                if (groups[i].hasEnded()) {
                    groups[i].writeAll(memory);
                }
            }
        }
    }

    /** A unit: its groups in the order in which they came, and the lines that it has. */
    private static final class Unit {
        private static final int PARITIES = 2;

        private final Group[] groups = new Group[ROOM_GROUPS];
        private final int[] lines = {NONE, NONE};
        int count;
        private Group last;

        Group groupOf(int index) {
            return isWithin(index, 0, count - 1) ? groups[index] : null;
        }

        boolean hasRoomFor(Kernel kernel, int threads) {
            return count + groupsFor(threads) <= ROOM_GROUPS
                    && usedRegisters() + threads * kernel.registers <= ROOM_REGISTERS
                    && usedShared() + kernel.sharedCells <= ROOM_SHARED;
        }

        private int usedRegisters() {
            int used = 0;
            for (int i = 0; i < count; i++) {
                Block block = groups[i].block;
                used += groups[i].first == 0 ? block.threads.length * block.launch.kernel.registers : 0;
            }
            return used;
        }

        private int usedShared() {
            int used = 0;
            for (int i = 0; i < count; i++) {
                used += groups[i].first == 0 ? groups[i].block.sharedCells.length : 0;
            }
            return used;
        }

        void take(Block block) {
            for (int i = 0; i < block.groups.length && count < groups.length; i++) {
                groups[count] = block.groups[i];
                count++;
            }
        }

        void dropBlock(Block block) {
            int kept = 0;
            for (int i = 0; i < count; i++) {
                if (groups[i].block != block) {
                    groups[kept] = groups[i];
                    kept++;
                }
            }
            cutTo(kept);
        }

        void dropLaunch(Launch launch) {
            int kept = 0;
            for (int i = 0; i < count; i++) {
                if (groups[i].block.launch != launch) {
                    groups[kept] = groups[i];
                    kept++;
                }
            }
            cutTo(kept);
        }

        private void cutTo(int kept) {
            for (int i = kept; i < count; i++) {
                groups[i] = null;
            }
            count = kept;
        }

        Group choose(char order, int cycle) {
            int start = order == 'a' ? indexOfLast() + 1 : 0;
            for (int i = 0; i < count; i++) {
                int index = order == 'y' ? count - 1 - i : (start + i) % count;
                if (groups[index].canAct(cycle)) {
                    last = groups[index];
                    return last;
                }
            }
            return null;
        }

        private int indexOfLast() {
            for (int i = 0; i < count; i++) {
                if (groups[i] == last) {
                    return i;
                }
            }
            return NONE;
        }

        /** Has the unit look at a line, which it has from then on; answers whether it was missing. */
        boolean missesLine(int line) {
            int parity = Math.floorMod(line, PARITIES);
            boolean isMissing = lines[parity] != line;
            lines[parity] = line;
            return isMissing;
        }

        boolean isInOrder() {
            for (int i = 0; i < count; i++) {
                if (!groups[i].isBufferWithinRoom() || groups[i].block.launch.isOver()) {
                    return false;
                }
            }
            return count <= ROOM_GROUPS && usedRegisters() <= ROOM_REGISTERS
                    && usedShared() <= ROOM_SHARED;
        }
    }

    /** A launch of a kernel, or a copy, which has no kernel. */
    private static final class Launch {
        private static final char QUEUED = 'q';
        private static final char RUNS = 'r';
        private static final char DONE = 'd';
        private static final char FAILED = 'f';
        private static final char CANCELLED = 'x';

        final int number;
        final int queue;
        final Launch ahead;
        final Launch after;
        final Launch parent;
        Kernel kernel;
        int blocks;
        int threads;
        int given;
        int endedBlocks;
        char state = QUEUED;
        char fault;
        int faultPosition;
        private int from;
        private int to;
        private int cellsLeft;
        final int[] touches = new int[CELLS];
        final boolean[] racing = new boolean[CELLS];
        int raceCount;

        Launch(int number, int queue, Launch ahead, Launch after, Launch parent) {
            this.number = number;
            this.queue = queue;
            this.ahead = ahead;
            this.after = after;
            this.parent = parent;
        }

        void useKernel(Kernel launched, int blockCount, int threadCount) {
            kernel = launched;
            kernel.wasLaunched = true;
            blocks = blockCount;
            threads = threadCount;
        }

        void useCopy(int firstFrom, int firstTo, int cells) {
            from = firstFrom;
            to = firstTo;
            cellsLeft = cells;
        }

        boolean isOver() {
            return state == DONE || state == FAILED || state == CANCELLED;
        }

        boolean isSpoiled() {
            return state == FAILED || state == CANCELLED;
        }

        boolean isRunning() {
            return state == RUNS;
        }

        boolean isCopyRunning() {
            return kernel == null && state == RUNS;
        }

        boolean hasBlockToGive() {
            return kernel != null && state == RUNS && given < blocks;
        }

        int depth() {
            int depth = 0;
            Launch upper = parent;
            while (upper != null && depth < MOST_LAUNCHES) {
                depth++;
                upper = upper.parent;
            }
            return depth;
        }

        void moveCell(int[] memory) {
            if (cellsLeft > 0 && isCell(from) && isCell(to)) {
                memory[to] = memory[from];
                from++;
                to++;
                cellsLeft--;
            }
            if (cellsLeft == 0) {
                state = DONE;
            }
        }

        void markRace(int cell) {
            if (!racing[cell]) {
                racing[cell] = true;
                raceCount++;
            }
        }
    }

    /** All kernels and launches, with the queues. */
    private static final class Ledger {
        private static final int GREATEST_DEPTH = 2;

        private final Kernel[] kernels = new Kernel[MOST_KERNELS];
        private final Launch[] launches = new Launch[MOST_LAUNCHES];
        int kernelCount;
        int launchCount;

        Kernel kernelOf(int number) {
            return isWithin(number, 0, kernelCount - 1) ? kernels[number] : null;
        }

        Launch launchOf(int number) {
            return isWithin(number, 0, launchCount - 1) ? launches[number] : null;
        }

        int enterKernel(Kernel kernel) {
            if (kernelCount < kernels.length) {
                kernels[kernelCount] = kernel;
                kernelCount++;
            }
            return kernelCount - 1;
        }

        /** A launch that was over already cancels none that comes behind it, so it is forgotten. */
        Launch enterHostLaunch(int queue, int after) {
            Launch ahead = lastIn(queue);
            boolean isForgotten = ahead == null || ahead.isOver();
            return enter(new Launch(launchCount, queue, isForgotten ? null : ahead,
                    launchOf(after), null));
        }

        private Launch enter(Launch launch) {
            if (launchCount < launches.length) {
                launches[launchCount] = launch;
                launchCount++;
            }
            return launch;
        }

        private Launch lastIn(int queue) {
            for (int i = launchCount - 1; i >= 0; i--) {
                if (launches[i].queue == queue) {
                    return launches[i];
                }
            }
            return null;
        }

        /** Answers whether the child is launched, and not refused. */
        boolean launchChild(Launch parent, int kernel, int threads) {
            Kernel target = kernelOf(kernel);
            if (target == null || target.blocksInUnit(threads) == 0
                    || launchCount >= MOST_LAUNCHES || parent.depth() >= GREATEST_DEPTH) {
                return false;
            }
            enter(new Launch(launchCount, NONE, null, null, parent)).useKernel(target, 1, threads);
            return true;
        }

        boolean isAllOver() {
            for (int i = 0; i < launchCount; i++) {
                if (!launches[i].isOver()) {
                    return false;
                }
            }
            return true;
        }

        void startQueued() {
            for (int queue = 0; queue < QUEUES; queue++) {
                startIn(queue);
            }
            for (int i = 0; i < launchCount; i++) {
                if (launches[i].parent != null && launches[i].state == Launch.QUEUED) {
                    launches[i].state = Launch.RUNS;
                }
            }
        }

        private void startIn(int queue) {
            for (int i = 0; i < launchCount; i++) {
                Launch launch = launches[i];
                if (launch.queue != queue || launch.isOver()) {
                    continue;
                }
                if (launch.state == Launch.QUEUED) {
                    decide(launch);
                }
                if (!launch.isOver()) {
                    return;
                }
            }
        }

        private static void decide(Launch launch) {
            if (launch.ahead != null && launch.ahead.isSpoiled()
                    || launch.after != null && launch.after.isSpoiled()) {
                launch.state = Launch.CANCELLED;
            } else if (launch.after == null || launch.after.isOver()) {
                launch.state = Launch.RUNS;
            }
        }

        /** Ends a launch of which nothing is left to come, and those that waited for it alone. */
        void endIfDone(Launch launch) {
            Launch current = launch;
            for (int i = 0; i < MOST_LAUNCHES && current != null; i++) {
                if (!current.isRunning() || current.endedBlocks < current.blocks
                        || hasOpenChild(current)) {
                    return;
                }
                current.state = Launch.DONE;
                current = current.parent;
            }
        }

        private boolean hasOpenChild(Launch parent) {
            for (int i = 0; i < launchCount; i++) {
                if (launches[i].parent == parent && !launches[i].isOver()) {
                    return true;
                }
            }
            return false;
        }
    }

    /** What is counted. */
    private static final class Figures {
        long instructions;
        long laneInstructions;
        long delaySum;
        long delays;
        int missedLines;
        int lostCycles;
        int passedBarriers;
        int refusedChildren;
    }

    /** The memory, the units, and the cycles. */
    private static final class Core {
        private static final char NO_FAULT = '-';
        private static final int LINE_SHIFT = 3;
        private static final int BANKS = 4;

        private final Ledger ledger;
        final int[] memory = new int[CELLS];
        final Unit[] units = {new Unit(), new Unit()};
        final Figures figures = new Figures();
        int cycle;
        char order = 'o';
        // The instruction that is carried out: what its lanes name, as it was ahead of it.
        private final int[] named = new int[LANES];
        private final int[] taken = new int[LANES];
        private int mask;
        private int votes;
        private int written;

        Core(Ledger ledger) {
            this.ledger = ledger;
        }

        void letCycleCome() {
            ledger.startQueued();
            moveCopies();
            giveBlocks();
            for (int i = 0; i < UNITS; i++) {
                Group group = units[i].choose(order, cycle);
                if (group != null && carryOut(units[i], group)) {
                    settle(group.block);
                }
            }
            if (cycle % 3 == 2) {
                writeFirstOfBuffers();
            }
            cycle++;
        }

        private void moveCopies() {
            for (int i = 0; i < ledger.launchCount; i++) {
                Launch launch = ledger.launchOf(i);
                if (launch != null && launch.isCopyRunning()) {
                    launch.moveCell(memory);
                }
            }
        }

        private void giveBlocks() {
            for (int i = 0; i < ledger.launchCount; i++) {
                Launch launch = ledger.launchOf(i);
                for (int n = 0; n < MOST_BLOCKS && launch != null && launch.hasBlockToGive(); n++) {
                    Unit unit = unitFor(launch);
                    if (unit == null) {
                        break;
                    }
                    give(unit, launch);
                }
            }
        }

        private Unit unitFor(Launch launch) {
            Unit best = null;
            for (int i = 0; i < UNITS; i++) {
                if (units[i].hasRoomFor(launch.kernel, launch.threads)
                        && (best == null || units[i].count < best.count)) {
                    best = units[i];
                }
            }
            return best;
        }

        private void give(Unit unit, Launch launch) {
            Block block = Block.nextOf(launch);
            unit.take(block);
            endIfEnded(block);
        }

        private void writeFirstOfBuffers() {
            for (int i = 0; i < UNITS; i++) {
                for (int k = 0; k < units[i].count; k++) {
                    units[i].groups[k].writeFirst(memory);
                }
            }
        }

        /** Answers whether there is no fault. */
        private boolean carryOut(Unit unit, Group group) {
            int place = group.leastPlace();
            Kernel kernel = group.block.launch.kernel;
            Instruction told = kernel.instructionAt(place);
            if (told == null) {
                return false;
            }
            figures.instructions++;
            mask = group.lanesUnderMask();
            lookAhead(group, told);
            for (int lane = 0; lane < LANES; lane++) {
                MillThread thread = group.threadIn(lane);
                if (thread == null || !isIn(mask, lane)) {
                    continue;
                }
                char fault = carryLane(group, lane, thread, told);
                if (fault != NO_FAULT) {
                    fail(group.block, thread.number, place, fault);
                    return false;
                }
                thread.goOn(told, kernel.length);
                figures.laneInstructions++;
            }
            group.readyAt = cycle + countedDelay(unit, told);
            return true;
        }

        private void lookAhead(Group group, Instruction told) {
            votes = 0;
            for (int lane = 0; lane < LANES; lane++) {
                MillThread thread = group.threadIn(lane);
                named[lane] = thread == null ? 0 : thread.at(told.cellRegister());
                taken[lane] = thread == null ? 0 : thread.at(told.b);
                if (isIn(mask, lane) && taken[lane] != 0) {
                    votes |= 1 << lane;
                }
            }
            written = told.isOneOf("axbf") ? group.writeAll(memory) : 0;
        }

        private char carryLane(Group group, int lane, MillThread thread, Instruction told) {
            if (told.isOneOf("rwax")) {
                return carryGlobal(group, named[lane], thread, told);
            }
            if (told.isOneOf("RW")) {
                return carryShared(group.block, named[lane], thread, told);
            }
            if (told.letter == 'v') {
                thread.set(told.a, votes);
            } else if (told.letter == 's') {
                int source = Math.floorMod(thread.at(told.c), LANES);
                thread.set(told.a, taken[isIn(mask, source) ? source : lane]);
            } else if (told.letter == 'c') {
                carryChild(group.block.launch, thread, told);
            } else {
                thread.reckon(told);
            }
            return NO_FAULT;
        }

        private char carryGlobal(Group group, int cell, MillThread thread, Instruction told) {
            if (!isCell(cell)) {
                return 'g';
            }
            group.block.touchGlobal(thread.number, cell, told.letter == 'w');
            if (told.letter == 'r') {
                thread.set(told.a, group.seenIn(cell, memory));
            } else if (told.letter == 'w') {
                if (group.isBufferFull()) {
                    group.writeFirst(memory);
                    written++;
                }
                group.putWrite(cell, thread.at(told.b));
            } else {
                exchange(memory, cell, thread, told);
            }
            return NO_FAULT;
        }

        private static char carryShared(Block block, int cell, MillThread thread,
                Instruction told) {
            if (!block.hasShared(cell)) {
                return 's';
            }
            block.touchShared(thread.number, cell, told.letter == 'W');
            if (told.letter == 'R') {
                thread.set(told.a, block.sharedCells[cell]);
            } else {
                block.sharedCells[cell] = thread.at(told.b);
            }
            return NO_FAULT;
        }

        private void carryChild(Launch launch, MillThread thread, Instruction told) {
            boolean isLaunched = ledger.launchChild(launch, told.b, thread.at(told.c));
            if (!isLaunched) {
                figures.refusedChildren++;
            }
            thread.set(told.a, isLaunched ? 1 : 0);
        }

        private int countedDelay(Unit unit, Instruction told) {
            int delay = delayOf(unit, told);
            figures.delaySum += delay;
            figures.delays++;
            if (told.isOneOf("RW")) {
                figures.lostCycles += delay - 1;
            }
            return delay;
        }

        private int delayOf(Unit unit, Instruction told) {
            switch (told.letter) {
                case '*':
                    return 2;
                case 'R':
                case 'W':
                    return bankDelay();
                case 'r':
                    return lineDelay(unit);
                case 'w':
                case 'f':
                    return 1 + written;
                case 'a':
                case 'x':
                    return 2 * Integer.bitCount(mask);
                case 'c':
                    return 4 * Integer.bitCount(mask);
                default:
                    return 1;
            }
        }

        private int bankDelay() {
            int greatest = 0;
            for (int bank = 0; bank < BANKS; bank++) {
                int different = 0;
                for (int lane = 0; lane < LANES; lane++) {
                    if (isNamedFirst(lane, 0) && Math.floorMod(named[lane], BANKS) == bank) {
                        different++;
                    }
                }
                greatest = Math.max(greatest, different);
            }
            return greatest;
        }

        private int lineDelay(Unit unit) {
            int delay = 0;
            for (int lane = 0; lane < LANES; lane++) {
                if (!isNamedFirst(lane, LINE_SHIFT)) {
                    continue;
                }
                delay += 2;
                if (unit.missesLine(named[lane] >> LINE_SHIFT)) {
                    delay += 4;
                    figures.missedLines++;
                }
            }
            return delay;
        }

        /** Whether a lane is the lowest under the mask that names its cell, or its line. */
        private boolean isNamedFirst(int lane, int shift) {
            for (int lower = 0; lower < lane; lower++) {
                if (isIn(mask, lower) && named[lower] >> shift == named[lane] >> shift) {
                    return false;
                }
            }
            return isIn(mask, lane);
        }

        /** Groups that have ended write ahead of a barrier's fault, which would lose their writes. */
        private void settle(Block block) {
            block.writeEndedGroups(memory);
            if (block.isAllWaiting()) {
                lookAtBarrier(block);
            }
            endIfEnded(block);
        }

        private void lookAtBarrier(Block block) {
            MillThread lowest = block.lowestWaiting();
            if (lowest == null) {
                return;
            }
            if (block.passBarrier(lowest.place)) {
                figures.passedBarriers++;
            } else {
                fail(block, lowest.number, lowest.place, 'b');
            }
        }

        private void endIfEnded(Block block) {
            if (!block.isAllEnded()) {
                return;
            }
            for (int i = 0; i < UNITS; i++) {
                units[i].dropBlock(block);
            }
            block.launch.endedBlocks++;
            ledger.endIfDone(block.launch);
        }

        private void fail(Block block, int thread, int place, char fault) {
            Launch launch = block.launch;
            launch.state = Launch.FAILED;
            launch.fault = fault;
            launch.faultPosition = 10000 * block.number + 100 * thread + place;
            for (int i = 0; i < UNITS; i++) {
                units[i].dropLaunch(launch);
            }
            ledger.endIfDone(launch.parent);
        }
    }

    /** Runs the threads of a kernel one after the other, on a memory of its own. */
    private static final class Replay {
        private static final int MOST_CARRIED = 200;

        final int[] memory = new int[CELLS];
        private final int[] sharedCells = new int[MOST_SHARED];
        private final MillThread[] threads = new MillThread[MOST_THREADS];
        private final int[] carried = new int[MOST_THREADS];
        private Kernel kernel;
        private int size;
        private boolean isFalling;

        Replay() {
            for (int i = 0; i < threads.length; i++) {
                threads[i] = new MillThread(i, MOST_REGISTERS);
            }
        }

        void begin(Kernel target, int threadCount, boolean comesFalling, int[] from) {
            kernel = target;
            size = Math.min(threadCount, MOST_THREADS);
            isFalling = comesFalling;
            for (int i = 0; i < CELLS && i < from.length; i++) {
                memory[i] = from[i];
            }
        }

        /** Answers whether all blocks ended, without a fault and without too many instructions. */
        boolean runBlocks(int blocks) {
            for (int i = 0; i < blocks; i++) {
                if (!runBlock(isFalling ? blocks - 1 - i : i)) {
                    return false;
                }
            }
            return true;
        }

        private boolean runBlock(int number) {
            Arrays.fill(sharedCells, 0);
            Arrays.fill(carried, 0);
            for (int i = 0; i < size; i++) {
                threads[i].begin(number, kernel.length);
            }
            // Each round but the last ends at a barrier, which each thread in it carries out.
            for (int round = 0; round <= MOST_CARRIED; round++) {
                for (int i = 0; i < size; i++) {
                    if (!runThread(threads[isFalling ? size - 1 - i : i])) {
                        return false;
                    }
                }
                MillThread lowest = MillThread.lowestOfWaiting(threads, size);
                if (lowest == null) {
                    return true;
                }
                if (!MillThread.release(threads, size, lowest.place, kernel.length)) {
                    return false;
                }
            }
            return false;
        }

        private boolean runThread(MillThread thread) {
            for (int i = 0; i <= MOST_CARRIED && thread.isRunning(); i++) {
                Instruction told = kernel.instructionAt(thread.place);
                if (told == null || carried[thread.number] >= MOST_CARRIED
                        || !carry(thread, told)) {
                    return false;
                }
                carried[thread.number]++;
                thread.goOn(told, kernel.length);
            }
            return !thread.isRunning();
        }

        private boolean carry(MillThread thread, Instruction told) {
            int cell = thread.at(told.cellRegister());
            if (told.isOneOf("rwax")) {
                return carryGlobal(thread, told, cell);
            }
            if (told.isOneOf("RW")) {
                return carryShared(thread, told, cell);
            }
            thread.reckon(told);
            return true;
        }

        private boolean carryGlobal(MillThread thread, Instruction told, int cell) {
            if (!isCell(cell)) {
                return false;
            }
            if (told.letter == 'r') {
                thread.set(told.a, memory[cell]);
            } else if (told.letter == 'w') {
                memory[cell] = thread.at(told.b);
            } else {
                exchange(memory, cell, thread, told);
            }
            return true;
        }

        private boolean carryShared(MillThread thread, Instruction told, int cell) {
            if (!isWithin(cell, 0, kernel.sharedCells - 1)) {
                return false;
            }
            if (told.letter == 'R') {
                thread.set(told.a, sharedCells[cell]);
            } else {
                sharedCells[cell] = thread.at(told.b);
            }
            return true;
        }
    }
}
