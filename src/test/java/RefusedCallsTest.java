import java.util.ArrayList;
import java.util.List;

/**
 * Refused calls: each one throws the exception that the document names, the one documented first where
 * several apply, and changes nothing. A machine on which a call was refused is compared with its twin,
 * at once and behind further calls that would show what cannot be seen at once.
 */
public final class RefusedCallsTest extends Checks {
    public static void main(String[] args) {
        Sentences.run(RefusedCallsTest.class);
    }

    private interface MillCall {
        Object answer(LaneMill mill);
    }

    private interface Scene {
        LaneMill mill();
    }

    private record Refusal(String what, Class<?> exception, MillCall call) {
    }

    /** Each of these calls is refused in the machine of a scene, and leaves it as its twin is. */
    private static void refusesAll(Scene scene, List<Refusal> refusals) {
        String before = picture(scene.mill());
        String later = later(scene.mill());
        for (Refusal refusal : refusals) {
            LaneMill mill = scene.mill();
            due(refusal.what(), answerOrException(() -> refusal.call().answer(mill)), refusal.exception());
            due(refusal.what() + " leaves", picture(mill), before);
            LaneMill other = scene.mill();
            answerOrException(() -> refusal.call().answer(other));
            due(refusal.what() + " leaves for later", later(other), later);
        }
    }

    /** What calls behind a refused one answer, and what they make of the machine. */
    private static String later(LaneMill mill) {
        List<Object> answers = new ArrayList<>();
        MillCall[] calls = {m -> m.addKernel(1, 0), m -> m.setOrder('a'), m -> m.code(2, 'e', 0, 0, 0),
            m -> m.code(2, 'e', 0, 0, 0), m -> m.code(3, 'e', 0, 0, 0), m -> m.launch(1, 2, 1, 1, -1), m -> m.step(7),
            m -> m.copy(0, 1, 40, 2, -1), m -> m.run(9), m -> m.setOrder('o')};
        for (MillCall call : calls) {
            answers.add(answerOrException(() -> call.answer(mill)));
        }
        return answers + picture(mill);
    }

    /** What a machine shows, by fewer than 400 calls. */
    private static String picture(LaneMill mill) {
        StringBuilder text = new StringBuilder();
        text.append("cycle ").append(mill.cycle()).append(", cells ").append(cells(mill, 0, 63)).append(", states ");
        text.append(states(mill)).append(", launches");
        for (int i = 0; i < mill.launches(); i++) {
            int number = i;
            text.append(' ').append(mill.given(i)).append('/').append(mill.races(i)).append('/');
            text.append(mill.isRacing(i, 0)).append('/').append(answerOrException(() -> mill.parent(number))).append('/');
            text.append(answerOrException(() -> mill.faultAt(number)));
        }
        for (int unit = 0; unit < 2; unit++) {
            text.append(", unit ").append(unit).append(": ").append(threads(mill, unit)).append(" at ");
            text.append(places(mill, unit));
            for (int group = 0; group < mill.groups(unit); group++) {
                int index = group;
                int number = unit;
                text.append(" (").append(mill.places(unit, group)).append(mill.reason(unit, group));
                text.append(mill.buffered(unit, group)).append(' ').append(mill.register(unit, group, 0, 0)).append(' ');
                text.append(answerOrException(() -> mill.register(number, index, 1, 1))).append(' ');
                text.append(answerOrException(() -> mill.shared(number, index, 1))).append(')');
            }
        }
        text.append(", figures ").append(mill.lanes()).append(' ').append(mill.misses()).append(' ').append(mill.lost());
        text.append(' ').append(mill.barriers()).append(' ').append(mill.refused()).append(' ');
        text.append(answerOrException(mill::usedShare)).append(' ').append(answerOrException(mill::meanDelay));
        for (int kernel = 0; kernel < 5; kernel++) {
            int number = kernel;
            text.append(' ').append(answerOrException(() -> mill.fits(number, 1)));
        }
        return text.append(mill.isSound()).toString();
    }

    // ---- scenes

    /** Three kernels: 0 runs, 1 has failed, 2 is not launched; the launches 2 is queued, and 3 is a child. */
    private static LaneMill busy() {
        LaneMill mill = new LaneMill();
        kernel(mill, 3, 2, "t 0", "w 0 0", "k 1 1", "W 1 0", "r 2 1", "z 0 7", "j 8", "c 2 1 1", "w 1 0", "b", "j 8");
        kernel(mill, 1, 0, "k 0 64", "r 0 0");
        kernel(mill, 8, 16, "v 0 0");
        mill.launch(0, 1, 1, 1, -1);
        mill.step(3);
        mill.launch(1, 0, 1, 6, -1);
        mill.copy(0, 0, 32, 8, 1);
        mill.step(24);
        return mill;
    }

    /** Four kernels, one of them of 40 instructions, and twelve launches, of which one runs. */
    private static LaneMill full() {
        LaneMill mill = new LaneMill();
        kernel(mill, 2, 2, "k 1 1", "k 0 2", "w 1 0", "f", "j 1");
        kernel(mill, 8, 0, "e");
        String[] lines = new String[40];
        for (int i = 0; i < 40; i++) {
            lines[i] = "s 0 0 0";
        }
        kernel(mill, 1, 0, lines);
        kernel(mill, 1, 0, "R 0 0");
        for (int i = 0; i < 11; i++) {
            mill.copy(1, 0, i, 1, i - 1);
        }
        mill.launch(0, 0, 1, 5, -1);
        mill.step(20);
        return mill;
    }

    private static List<Refusal> refusals(Object... rows) {
        List<Refusal> found = new ArrayList<>();
        for (int i = 0; i < rows.length; i += 3) {
            found.add(new Refusal((String) rows[i], (Class<?>) rows[i + 1], (MillCall) rows[i + 2]));
        }
        return found;
    }

    private static Refusal refusal(String what, Class<?> exception, MillCall call) {
        return new Refusal(what, exception, call);
    }

    /** The scenes that 'busy' and 'full' tell are as they should be, so that the refusals are put to the test. */
    @Sentence(of = "Exceptions", says = "A method that throws an exception changes nothing.")
    static void scenes() {
        LaneMill busy = busy();
        due("busy", states(busy) + " " + threads(busy, 0) + " " + busy.fault(0) + " " + busy.parent(3), "frqf 1000 1004 g 1");
        due("the kernel 2", busy.code(2, 'e', 0, 0, 0), 1);
        LaneMill full = full();
        due("full", states(full) + " " + threads(full, 0), "d".repeat(11) + "r 11000 11004");
    }

    // ---- kernels and memory

    private static final int[] NO_UNIT = {-1, 2, LEAST, GREATEST};

    @Sentence(of = "Promise 2", says = "Throws `IllegalArgumentException` if a number is out of range")
    static void addKernelOutOfRange() {
        List<Refusal> rows = new ArrayList<>();
        for (int[] bad : new int[][] {{0, 0}, {9, 0}, {1, -1}, {1, 17}, {0, -1}, {9, 17}, {LEAST, LEAST}, {GREATEST, GREATEST}}) {
            rows.add(refusal("addKernel " + bad[0] + " " + bad[1], ARGUMENT, m -> m.addKernel(bad[0], bad[1])));
        }
        refusesAll(RefusedCallsTest::busy, rows);
        refusesAll(LaneMill::new, rows);
        refusesAll(RefusedCallsTest::full, rows);
    }

    @Sentence(of = "Promise 2", says = "Throws `IllegalStateException` if there are 4 kernels")
    static void addKernelToFour() {
        refusesAll(RefusedCallsTest::full, List.of(
            refusal("one more", STATE, m -> m.addKernel(1, 0)),
            refusal("the largest", STATE, m -> m.addKernel(8, 16)),
            refusal("one out of range", ARGUMENT, m -> m.addKernel(9, 0)),
            refusal("shared out of range", ARGUMENT, m -> m.addKernel(1, 17))));
    }

    @Sentence(of = "Promise 3", says = "Throws `IndexOutOfBoundsException` if there is no such kernel")
    static void codeOfNoKernel() {
        List<Refusal> rows = new ArrayList<>();
        for (int kernel : new int[] {3, -1, LEAST, GREATEST}) {
            rows.add(refusal("kernel " + kernel, INDEX, m -> m.code(kernel, 'e', 0, 0, 0)));
            rows.add(refusal("kernel " + kernel + " and letter", INDEX, m -> m.code(kernel, '?', 9, 9, 9)));
        }
        refusesAll(RefusedCallsTest::busy, rows);
        refusesAll(LaneMill::new, List.of(refusal("kernel 0", INDEX, m -> m.code(0, 'q', 0, 0, 0))));
        refusesAll(RefusedCallsTest::full, List.of(refusal("kernel 4", INDEX, m -> m.code(4, 'q', 0, 0, 0))));
    }

    @Sentence(of = "Promise 3", says = "Throws `IllegalArgumentException` if there is no such letter; or one of the numbers names a "
        + "register of the instruction that the kernel does not have; or b is a place for 'z' or 'j', or a kernel for 'c', and is "
        + "not from 0 to 39, or from 0 to 3")
    static void codeOutOfRange() {
        Object[] rows = {"letter", ARGUMENT, (MillCall) m -> m.code(2, '?', 0, 0, 0),
            "letter of launched", ARGUMENT, (MillCall) m -> m.code(0, '?', 0, 0, 0),
            "register 8", ARGUMENT, (MillCall) m -> m.code(2, 't', 8, 0, 0),
            "register -1", ARGUMENT, (MillCall) m -> m.code(2, '+', 0, -1, 0),
            "register 3 of launched", ARGUMENT, (MillCall) m -> m.code(0, '+', 0, 0, 3),
            "place 40", ARGUMENT, (MillCall) m -> m.code(2, 'z', 0, 40, 0),
            "place -1", ARGUMENT, (MillCall) m -> m.code(2, 'j', 0, -1, 0),
            "place of launched", ARGUMENT, (MillCall) m -> m.code(0, 'j', 0, 40, 0),
            "kernel 4", ARGUMENT, (MillCall) m -> m.code(2, 'c', 0, 4, 0),
            "kernel -1", ARGUMENT, (MillCall) m -> m.code(2, 'c', 0, -1, 0)};
        refusesAll(RefusedCallsTest::busy, refusals(rows));
        refusesAll(RefusedCallsTest::full, List.of(
            refusal("letter of forty", ARGUMENT, m -> m.code(2, '?', 0, 0, 0)),
            refusal("register of forty", ARGUMENT, m -> m.code(2, 'k', 1, 0, 0))));
    }

    @Sentence(of = "Promise 3", says = "Throws `IllegalStateException` if there are 40 instructions, or the kernel was launched, as a "
        + "child or otherwise")
    static void codeOfFullOrLaunchedKernels() {
        refusesAll(RefusedCallsTest::busy, List.of(
            refusal("launched, and runs", STATE, m -> m.code(0, 'e', 0, 0, 0)),
            refusal("launched, and has failed", STATE, m -> m.code(1, 'e', 0, 0, 0))));
        refusesAll(RefusedCallsTest::full, List.of(refusal("forty", STATE, m -> m.code(2, 'e', 0, 0, 0))));
    }

    @Sentence(of = "Promise 4", says = "Throws `IndexOutOfBoundsException` if there is no such kernel")
    static void fitsOfNoKernel() {
        List<Refusal> rows = new ArrayList<>();
        for (int kernel : new int[] {3, -1, LEAST, GREATEST}) {
            rows.add(refusal("kernel " + kernel, INDEX, m -> m.fits(kernel, 1)));
            rows.add(refusal("kernel " + kernel + " and threads", INDEX, m -> m.fits(kernel, 0)));
        }
        refusesAll(RefusedCallsTest::busy, rows);
    }

    @Sentence(of = "Promise 4", says = "Throws `IllegalArgumentException` if the number is out of range")
    static void fitsOutOfRange() {
        refusesAll(RefusedCallsTest::busy, List.of(
            refusal("0 threads", ARGUMENT, m -> m.fits(2, 0)), refusal("17 threads", ARGUMENT, m -> m.fits(2, 17))));
    }

    @Sentence(of = "Promise 5", says = "Throws `IndexOutOfBoundsException` if there is no such cell")
    static void pokeOfNoCell() {
        List<Refusal> rows = new ArrayList<>();
        for (int cell : new int[] {-1, 64, LEAST, GREATEST}) {
            rows.add(refusal("cell " + cell, INDEX, m -> m.poke(cell, 9)));
        }
        refusesAll(RefusedCallsTest::busy, rows);
    }

    @Sentence(of = "Promise 6", says = "Throws `IndexOutOfBoundsException` if there is no such cell")
    static void peekOfNoCell() {
        refusesAll(RefusedCallsTest::busy, List.of(
            refusal("cell -1", INDEX, m -> m.peek(-1)), refusal("cell 64", INDEX, m -> m.peek(64))));
    }

    // ---- launches

    @Sentence(of = "Promise 7", says = "Throws `IndexOutOfBoundsException` if there is no such queue, no such kernel or no such launch")
    static void launchOfNoQueueKernelOrLaunch() {
        List<Refusal> rows = new ArrayList<>();
        for (int bad : NO_UNIT) {
            rows.add(refusal("queue " + bad, INDEX, m -> m.launch(bad, 2, 1, 1, -1)));
            rows.add(refusal("queue " + bad + " and all else", INDEX, m -> m.launch(bad, 2, 0, 17, -1)));
        }
        for (int bad : new int[] {-1, 3, LEAST, GREATEST}) {
            rows.add(refusal("kernel " + bad, INDEX, m -> m.launch(0, bad, 1, 1, -1)));
            rows.add(refusal("kernel " + bad + " and all else", INDEX, m -> m.launch(0, bad, 0, 17, -1)));
        }
        for (int bad : new int[] {-2, 4, 12, LEAST, GREATEST}) {
            rows.add(refusal("after " + bad, INDEX, m -> m.launch(0, 2, 1, 1, bad)));
            rows.add(refusal("after " + bad + " and blocks", INDEX, m -> m.launch(0, 2, 7, 1, bad)));
            rows.add(refusal("after " + bad + " and room", INDEX, m -> m.launch(0, 2, 1, 16, bad)));
        }
        refusesAll(RefusedCallsTest::busy, rows);
        refusesAll(RefusedCallsTest::full, List.of(
            refusal("queue", INDEX, m -> m.launch(2, 0, 1, 1, -1)), refusal("kernel", INDEX, m -> m.launch(0, 4, 1, 1, -1)),
            refusal("after", INDEX, m -> m.launch(0, 0, 1, 1, 12))));
    }

    @Sentence(of = "Promise 7", says = "Throws `IllegalArgumentException` if a number of blocks or threads is out of range")
    static void launchOutOfRange() {
        List<Refusal> rows = new ArrayList<>();
        for (int bad : new int[] {0, 7, -1, LEAST, GREATEST}) {
            rows.add(refusal("blocks " + bad, ARGUMENT, m -> m.launch(0, 2, bad, 1, -1)));
            rows.add(refusal("blocks " + bad + " and room", ARGUMENT, m -> m.launch(0, 2, bad, 16, -1)));
        }
        for (int bad : new int[] {0, 17, -1, LEAST, GREATEST}) {
            rows.add(refusal("threads " + bad, ARGUMENT, m -> m.launch(0, 2, 1, bad, -1)));
        }
        refusesAll(RefusedCallsTest::busy, rows);
        refusesAll(RefusedCallsTest::full, List.of(
            refusal("blocks", ARGUMENT, m -> m.launch(0, 0, 7, 1, -1)), refusal("threads", ARGUMENT, m -> m.launch(0, 0, 1, 0, -1))));
    }

    @Sentence(of = "Promise 7", says = "Throws `UnsupportedOperationException` if not one block fits into an empty unit")
    static void launchWithoutRoom() {
        refusesAll(RefusedCallsTest::busy, List.of(
            refusal("72 registers", UNSUPPORTED, m -> m.launch(0, 2, 1, 9, -1)),
            refusal("128 registers", UNSUPPORTED, m -> m.launch(1, 2, 6, 16, 3))));
        refusesAll(RefusedCallsTest::full, List.of(refusal("twelve", UNSUPPORTED, m -> m.launch(0, 1, 1, 9, -1))));
    }

    @Sentence(of = "Promise 7", says = "Throws `IllegalStateException` if there are 12 launches")
    static void launchOfAThirteenth() {
        refusesAll(RefusedCallsTest::full, List.of(
            refusal("kernel 3", STATE, m -> m.launch(0, 3, 1, 1, -1)), refusal("kernel 2", STATE, m -> m.launch(1, 2, 6, 16, 11))));
    }

    @Sentence(of = "Promise 8", says = "Throws `IndexOutOfBoundsException` if there is no such queue or no such launch")
    static void copyOfNoQueueOrLaunch() {
        List<Refusal> rows = new ArrayList<>();
        for (int bad : NO_UNIT) {
            rows.add(refusal("queue " + bad, INDEX, m -> m.copy(bad, 0, 0, 1, -1)));
            rows.add(refusal("queue " + bad + " and cells", INDEX, m -> m.copy(bad, 0, 0, 0, -1)));
        }
        for (int bad : new int[] {-2, 4, 12, LEAST, GREATEST}) {
            rows.add(refusal("after " + bad, INDEX, m -> m.copy(0, 0, 0, 1, bad)));
            rows.add(refusal("after " + bad + " and cells", INDEX, m -> m.copy(0, 64, 0, 1, bad)));
        }
        refusesAll(RefusedCallsTest::busy, rows);
        refusesAll(RefusedCallsTest::full, List.of(
            refusal("queue", INDEX, m -> m.copy(2, 0, 0, 1, -1)), refusal("after", INDEX, m -> m.copy(0, 0, 0, 1, 12))));
    }

    @Sentence(of = "Promise 8", says = "Throws `IllegalArgumentException` if the number of cells is out of range, or a cell that is moved, "
        + "or to which one is moved, is none")
    static void copyOutOfRange() {
        List<Refusal> rows = new ArrayList<>();
        for (int bad : new int[] {0, 65, -1, LEAST, GREATEST}) {
            rows.add(refusal("cells " + bad, ARGUMENT, m -> m.copy(0, 0, 0, bad, -1)));
        }
        for (int[] bad : new int[][] {{-1, 1}, {64, 1}, {63, 2}, {1, 64}, {LEAST, 64}, {GREATEST, 64}}) {
            rows.add(refusal("from " + bad[0], ARGUMENT, m -> m.copy(0, bad[0], 0, bad[1], -1)));
            rows.add(refusal("to " + bad[0], ARGUMENT, m -> m.copy(0, 0, bad[0], bad[1], -1)));
        }
        refusesAll(RefusedCallsTest::busy, rows);
        refusesAll(RefusedCallsTest::full, rows);
    }

    @Sentence(of = "Promise 8", says = "Throws `IllegalStateException` if there are 12 launches")
    static void copyOfAThirteenth() {
        refusesAll(RefusedCallsTest::full, List.of(refusal("a copy", STATE, m -> m.copy(0, 0, 0, 1, 11))));
    }

    /** A call that names a launch by its number. */
    private static void noSuchLaunch(String name, java.util.function.BiFunction<LaneMill, Integer, Object> call) {
        List<Refusal> rows = new ArrayList<>();
        for (int bad : new int[] {4, -1, 12, LEAST, GREATEST}) {
            rows.add(refusal(name + " of " + bad, INDEX, m -> call.apply(m, bad)));
        }
        refusesAll(RefusedCallsTest::busy, rows);
        refusesAll(LaneMill::new, List.of(refusal(name + " of 0", INDEX, m -> call.apply(m, 0))));
        refusesAll(RefusedCallsTest::full, List.of(refusal(name + " of 12", INDEX, m -> call.apply(m, 12))));
    }

    @Sentence(of = "Promise 10", says = "Throws `IndexOutOfBoundsException` if there is no such launch")
    static void stateOfNoLaunch() {
        noSuchLaunch("state", LaneMill::state);
    }

    @Sentence(of = "Promise 11", says = "Throws `IndexOutOfBoundsException` if there is no such launch")
    static void parentOfNoLaunch() {
        noSuchLaunch("parent", LaneMill::parent);
    }

    @Sentence(of = "Promise 11", says = "Throws `NoSuchElementException` if it is no child")
    static void parentOfNoChild() {
        refusesAll(RefusedCallsTest::busy, List.of(
            refusal("a launch", NO_ELEMENT, m -> m.parent(0)), refusal("a copy", NO_ELEMENT, m -> m.parent(2))));
    }

    @Sentence(of = "Promise 12", says = "Throws `IndexOutOfBoundsException` if there is no such launch")
    static void givenOfNoLaunch() {
        noSuchLaunch("given", LaneMill::given);
    }

    @Sentence(of = "Promise 13", says = "Throws `IllegalArgumentException` if the number is out of range")
    static void stepOutOfRange() {
        List<Refusal> rows = new ArrayList<>();
        for (int bad : new int[] {0, 101, -1, LEAST, GREATEST}) {
            rows.add(refusal("step " + bad, ARGUMENT, m -> m.step(bad)));
        }
        refusesAll(RefusedCallsTest::busy, rows);
    }

    @Sentence(of = "Promise 14", says = "Throws `IllegalArgumentException` if the number is out of range")
    static void runOutOfRange() {
        List<Refusal> rows = new ArrayList<>();
        for (int bad : new int[] {0, 501, -1, LEAST, GREATEST}) {
            rows.add(refusal("run " + bad, ARGUMENT, m -> m.run(bad)));
        }
        refusesAll(RefusedCallsTest::busy, rows);
        refusesAll(LaneMill::new, rows);
    }

    @Sentence(of = "Promise 15", says = "Throws `IllegalArgumentException` if there is no such order")
    static void setOrderOfNoOrder() {
        List<Refusal> rows = new ArrayList<>();
        for (char bad : new char[] {0, ' ', 'O', 'Y', 'A', 'b', 'n', 'p', 'x', 'z', Character.MAX_VALUE}) {
            rows.add(refusal("order " + (int) bad, ARGUMENT, m -> m.setOrder(bad)));
        }
        refusesAll(RefusedCallsTest::busy, rows);
    }

    // ---- groups in units

    /** A call that names a group, where the unit 0 has two groups, and the unit 1 has none. */
    private static void noSuchGroup(String name, GroupCall call) {
        List<Refusal> rows = new ArrayList<>();
        for (int bad : NO_UNIT) {
            rows.add(refusal(name + " of the unit " + bad, INDEX, m -> call.answer(m, bad, 0)));
        }
        for (int bad : new int[] {-1, 2, 4, LEAST, GREATEST}) {
            rows.add(refusal(name + " of the group " + bad, INDEX, m -> call.answer(m, 0, bad)));
        }
        rows.add(refusal(name + " of an empty unit", INDEX, m -> call.answer(m, 1, 0)));
        refusesAll(RefusedCallsTest::busy, rows);
        refusesAll(LaneMill::new, List.of(refusal(name + " of a new machine", INDEX, m -> call.answer(m, 0, 0))));
    }

    @Sentence(of = "Promise 17", says = "Throws `IndexOutOfBoundsException` if there is no such unit")
    static void groupsOfNoUnit() {
        List<Refusal> rows = new ArrayList<>();
        for (int bad : NO_UNIT) {
            rows.add(refusal("unit " + bad, INDEX, m -> m.groups(bad)));
        }
        refusesAll(RefusedCallsTest::busy, rows);
    }

    @Sentence(of = "Promise 18", says = "Throws `IndexOutOfBoundsException` if there is no such unit or no such group")
    static void threadAtOfNoGroup() {
        noSuchGroup("threadAt", LaneMill::threadAt);
    }

    @Sentence(of = "Promise 19", says = "Throws `IndexOutOfBoundsException` if there is no such unit or no such group")
    static void placeOfNoGroup() {
        noSuchGroup("place", LaneMill::place);
    }

    @Sentence(of = "Promise 19", says = "Throws `NoSuchElementException` if none of its threads runs")
    static void placeOfAGroupThatDoesNotRun() {
        Scene scene = () -> {
            LaneMill mill = launched(1, 9, 2, 0, "t 0", "k 1 4", "< 1 0 1", "z 1 5", "e", "b", "j 6");
            mill.step(10);
            return mill;
        };
        refusesAll(scene, List.of(
            refusal("ended", NO_ELEMENT, m -> m.place(0, 0)), refusal("waits", NO_ELEMENT, m -> m.place(0, 1)),
            refusal("no group", INDEX, m -> m.place(0, 3))));
    }

    @Sentence(of = "Promise 20", says = "Throws `IndexOutOfBoundsException` if there is no such unit or no such group")
    static void maskOfNoGroup() {
        noSuchGroup("mask", LaneMill::mask);
    }

    @Sentence(of = "Promise 21", says = "Throws `IndexOutOfBoundsException` if there is no such unit or no such group")
    static void placesOfNoGroup() {
        noSuchGroup("places", LaneMill::places);
    }

    @Sentence(of = "Promise 22", says = "Throws `IndexOutOfBoundsException` if there is no such unit or no such group")
    static void reasonOfNoGroup() {
        noSuchGroup("reason", LaneMill::reason);
    }

    @Sentence(of = "Promise 23", says = "Throws `IndexOutOfBoundsException` if there is no such unit, no such group, no thread in this lane, "
        + "or no such register of the kernel")
    static void registerOfNoThread() {
        noSuchGroup("register", (m, unit, group) -> m.register(unit, group, 0, 0));
        List<Refusal> rows = new ArrayList<>();
        for (int bad : new int[] {-1, 2, 3, 4, LEAST, GREATEST}) {
            rows.add(refusal("lane " + bad, INDEX, m -> m.register(0, 1, bad, 0)));
        }
        for (int bad : new int[] {-1, 3, 8, LEAST, GREATEST}) {
            rows.add(refusal("register " + bad, INDEX, m -> m.register(0, 0, 0, bad)));
        }
        refusesAll(RefusedCallsTest::busy, rows);
    }

    @Sentence(of = "Promise 24", says = "Throws `IndexOutOfBoundsException` if there is no such unit, no such group, or no such shared cell "
        + "of the kernel")
    static void sharedOfNoCell() {
        noSuchGroup("shared", (m, unit, group) -> m.shared(unit, group, 0));
        List<Refusal> rows = new ArrayList<>();
        for (int bad : new int[] {-1, 2, 16, LEAST, GREATEST}) {
            rows.add(refusal("cell " + bad, INDEX, m -> m.shared(0, 0, bad)));
        }
        refusesAll(RefusedCallsTest::busy, rows);
    }

    @Sentence(of = "Promise 25", says = "Throws `IndexOutOfBoundsException` if there is no such unit or no such group")
    static void bufferedOfNoGroup() {
        noSuchGroup("buffered", LaneMill::buffered);
    }

    // ---- faults and races

    @Sentence(of = "Promise 26", says = "Throws `IndexOutOfBoundsException` if there is no such launch")
    static void faultOfNoLaunch() {
        noSuchLaunch("fault", LaneMill::fault);
    }

    @Sentence(of = "Promise 26", says = "Throws `NoSuchElementException` if it has not failed")
    static void faultOfALaunchThatHasNotFailed() {
        refusesAll(RefusedCallsTest::busy, List.of(
            refusal("runs", NO_ELEMENT, m -> m.fault(1)), refusal("queued", NO_ELEMENT, m -> m.fault(2))));
        refusesAll(RefusedCallsTest::full, List.of(refusal("a copy", NO_ELEMENT, m -> m.fault(0))));
    }

    @Sentence(of = "Promise 27", says = "Throws `IndexOutOfBoundsException` if there is no such launch")
    static void faultAtOfNoLaunch() {
        noSuchLaunch("faultAt", LaneMill::faultAt);
    }

    @Sentence(of = "Promise 27", says = "Throws `NoSuchElementException` if it has not failed")
    static void faultAtOfALaunchThatHasNotFailed() {
        refusesAll(RefusedCallsTest::busy, List.of(
            refusal("runs", NO_ELEMENT, m -> m.faultAt(1)), refusal("queued", NO_ELEMENT, m -> m.faultAt(2))));
        refusesAll(RefusedCallsTest::full, List.of(refusal("a copy", NO_ELEMENT, m -> m.faultAt(0))));
    }

    @Sentence(of = "Promise 28", says = "Throws `IndexOutOfBoundsException` if there is no such launch or no such cell")
    static void isRacingOfNoLaunchOrCell() {
        noSuchLaunch("isRacing", (m, launch) -> m.isRacing(launch, 0));
        List<Refusal> rows = new ArrayList<>();
        for (int bad : new int[] {-1, 64, LEAST, GREATEST}) {
            rows.add(refusal("cell " + bad, INDEX, m -> m.isRacing(1, bad)));
        }
        refusesAll(RefusedCallsTest::busy, rows);
    }

    @Sentence(of = "Promise 29", says = "Throws `IndexOutOfBoundsException` if there is no such launch")
    static void racesOfNoLaunch() {
        noSuchLaunch("races", LaneMill::races);
    }

    @Sentence(of = "Promise 30", says = "Throws `IndexOutOfBoundsException` if there is no such kernel or no such cell")
    static void serialOfNoKernelOrCell() {
        List<Refusal> rows = new ArrayList<>();
        for (int bad : new int[] {3, -1, LEAST, GREATEST}) {
            rows.add(refusal("kernel " + bad, INDEX, m -> m.serial(bad, 1, 1, false, 0)));
            rows.add(refusal("kernel " + bad + " and blocks", INDEX, m -> m.serial(bad, 0, 0, true, 0)));
        }
        for (int bad : new int[] {64, -1, LEAST, GREATEST}) {
            rows.add(refusal("cell " + bad, INDEX, m -> m.serial(1, 1, 1, false, bad)));
            rows.add(refusal("cell " + bad + " and threads", INDEX, m -> m.serial(1, 1, 17, false, bad)));
            rows.add(refusal("cell " + bad + " and letters", INDEX, m -> m.serial(2, 1, 1, true, bad)));
        }
        refusesAll(RefusedCallsTest::busy, rows);
    }

    @Sentence(of = "Promise 30", says = "Throws `IllegalArgumentException` if a number of blocks or threads is out of range")
    static void serialOutOfRange() {
        List<Refusal> rows = new ArrayList<>();
        for (int bad : new int[] {0, 7, -1, LEAST, GREATEST}) {
            rows.add(refusal("blocks " + bad, ARGUMENT, m -> m.serial(1, bad, 1, false, 0)));
            rows.add(refusal("blocks " + bad + " and letters", ARGUMENT, m -> m.serial(2, bad, 1, false, 0)));
        }
        for (int bad : new int[] {0, 17, -1, LEAST, GREATEST}) {
            rows.add(refusal("threads " + bad, ARGUMENT, m -> m.serial(1, 1, bad, true, 0)));
            rows.add(refusal("threads " + bad + " and letters", ARGUMENT, m -> m.serial(2, 1, bad, true, 0)));
        }
        refusesAll(RefusedCallsTest::busy, rows);
    }

    @Sentence(of = "Promise 30", says = "Throws `UnsupportedOperationException` if the kernel has an instruction with the letter 'v', 's' or "
        + "'c'")
    static void serialOfLettersOfLanes() {
        refusesAll(RefusedCallsTest::busy, List.of(
            refusal("c, and without end", UNSUPPORTED, m -> m.serial(0, 6, 16, false, 0)),
            refusal("v", UNSUPPORTED, m -> m.serial(2, 1, 1, true, 63))));
        refusesAll(RefusedCallsTest::full, List.of(refusal("s", UNSUPPORTED, m -> m.serial(2, 1, 1, false, 0))));
    }

    @Sentence(of = "Promise 30", says = "Throws `IllegalStateException` if there would be a fault, or a thread would carry out more than 200 "
        + "instructions")
    static void serialWithFaultsOrWithoutEnd() {
        refusesAll(RefusedCallsTest::busy, List.of(refusal("fault g", STATE, m -> m.serial(1, 1, 1, false, 0))));
        refusesAll(RefusedCallsTest::full, List.of(
            refusal("without end", STATE, m -> m.serial(0, 6, 16, false, 0)),
            refusal("fault s", STATE, m -> m.serial(3, 1, 1, true, 0))));
        Scene scene = () -> {
            LaneMill mill = new LaneMill();
            kernel(mill, 2, 0, "t 0", "k 1 7", "w 0 1", "z 0 5", "b", "b");
            return mill;
        };
        refusesAll(scene, List.of(refusal("fault b", STATE, m -> m.serial(0, 1, 2, false, 0))));
    }

    // ---- figures

    @Sentence(of = "Promise 36", says = "Throws `ArithmeticException` if no group has carried out an instruction")
    static void usedShareOfNoInstruction() {
        refusesAll(LaneMill::new, List.of(refusal("usedShare", ARITHMETIC, LaneMill::usedShare)));
    }

    @Sentence(of = "Promise 37", says = "Throws `ArithmeticException` if there were none")
    static void meanDelayOfNoInstruction() {
        refusesAll(LaneMill::new, List.of(refusal("meanDelay", ARITHMETIC, LaneMill::meanDelay)));
        Scene scene = () -> {
            LaneMill mill = launched(1, 4, 1, 0, "R 0 0");
            mill.run(9);
            return mill;
        };
        refusesAll(scene, List.of(refusal("of a fault alone", ARITHMETIC, LaneMill::meanDelay)));
    }

    @Sentence(of = "Exceptions", says = "If several exceptions apply, the one that is documented first is thrown.")
    static void theExceptionThatIsDocumentedFirst() {
        refusesAll(RefusedCallsTest::full, List.of(
            refusal("addKernel: argument, state", ARGUMENT, m -> m.addKernel(0, 17)),
            refusal("code: index, argument, state", INDEX, m -> m.code(4, '?', -1, 40, 9)),
            refusal("code: argument, state", ARGUMENT, m -> m.code(2, 'c', 0, 4, 0)),
            refusal("fits: index, argument", INDEX, m -> m.fits(4, 17)),
            refusal("launch: index, argument, unsupported, state", INDEX, m -> m.launch(2, 1, 7, 17, 12)),
            refusal("launch: index by after, argument, unsupported, state", INDEX, m -> m.launch(0, 1, 7, 16, 12)),
            refusal("launch: argument, unsupported, state", ARGUMENT, m -> m.launch(0, 1, 7, 16, 11)),
            refusal("launch: unsupported, state", UNSUPPORTED, m -> m.launch(0, 1, 6, 16, 11)),
            refusal("launch: state", STATE, m -> m.launch(0, 1, 6, 8, 11)),
            refusal("copy: index, argument, state", INDEX, m -> m.copy(0, 64, 64, 65, 12)),
            refusal("copy: argument, state", ARGUMENT, m -> m.copy(0, 64, 64, 65, 11)),
            refusal("serial: index, argument, unsupported", INDEX, m -> m.serial(2, 7, 17, false, 64)),
            refusal("serial: argument, unsupported", ARGUMENT, m -> m.serial(2, 7, 17, false, 63)),
            refusal("serial: unsupported, state", UNSUPPORTED, m -> m.serial(2, 6, 16, false, 63))));
        Scene scene = () -> {
            LaneMill mill = new LaneMill();
            kernel(mill, 1, 0, "R 0 0", "v 0 0");
            return mill;
        };
        refusesAll(scene, List.of(refusal("serial: unsupported behind a fault", UNSUPPORTED, m -> m.serial(0, 1, 1, false, 0))));
    }
}
