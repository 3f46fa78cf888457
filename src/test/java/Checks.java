import java.util.NoSuchElementException;

/** What the tests share: answers that are due, refused calls, and machines with kernels in them. */
abstract class Checks {
    static final Class<?> INDEX = IndexOutOfBoundsException.class;
    static final Class<?> ARGUMENT = IllegalArgumentException.class;
    static final Class<?> STATE = IllegalStateException.class;
    static final Class<?> UNSUPPORTED = UnsupportedOperationException.class;
    static final Class<?> NO_ELEMENT = NoSuchElementException.class;
    static final Class<?> ARITHMETIC = ArithmeticException.class;
    static final int LEAST = Integer.MIN_VALUE;
    static final int GREATEST = Integer.MAX_VALUE;

    private static int wrong = 0;

    static int wrong() {
        return wrong;
    }

    /** Ends the tests of a class, with exit code 1 if one answer was not as due. */
    static void end() {
        System.out.println(wrong == 0 ? "all promises hold" : wrong + " answers are not as due");
        if (wrong != 0) {
            System.exit(1);
        }
    }

    static void due(String what, Object got, Object want) {
        if (!got.equals(want)) {
            tell(what, got, want);
        }
    }

    private static void tell(String what, Object got, Object want) {
        wrong++;
        System.out.println(new Throwable().getStackTrace()[2].getMethodName() + ": " + what
            + " answered " + got + ", due is " + want);
    }

    interface Call {
        Object answer();
    }

    interface GroupCall {
        Object answer(LaneMill mill, int unit, int group);
    }

    static void refuses(String what, Class<?> want, Call call) {
        Object got = answerOrException(call);
        if (got != want) {
            tell(what, got, want);
        }
    }

    /** What a call answers, or the class of the exception that it throws. */
    static Object answerOrException(Call call) {
        try {
            return call.answer();
        } catch (RuntimeException e) {
            return e.getClass();
        }
    }

    /**
     * Adds a kernel whose instructions are told as "k 0 5", numbers that are left out being 0; the
     * only number of 'j' is its place.
     */
    static int kernel(LaneMill mill, int registers, int shared, String... lines) {
        int kernel = mill.addKernel(registers, shared);
        for (String line : lines) {
            String[] parts = line.split(" ");
            int[] n = new int[3];
            for (int i = 1; i < parts.length; i++) {
                n[parts[0].equals("j") ? 1 : i - 1] = Integer.parseInt(parts[i]);
            }
            mill.code(kernel, parts[0].charAt(0), n[0], n[1], n[2]);
        }
        return kernel;
    }

    /** A machine in which one launch of one kernel, the only one, is queued. */
    static LaneMill launched(int blocks, int threads, int registers, int shared, String... lines) {
        LaneMill mill = new LaneMill();
        mill.launch(0, kernel(mill, registers, shared, lines), blocks, threads, -1);
        return mill;
    }

    /** Lets the next instruction be carried out, and tells after how many cycles another one can be. */
    static int delay(LaneMill mill) {
        if (mill.step(1) != 1) {
            return -1;
        }
        int delay = 1;
        while (mill.reason(0, 0) == 'd' && delay < 100) {
            mill.step(1);
            delay++;
        }
        return delay;
    }

    /** A register of the first lanes of the first group in the unit 0. */
    static String registers(LaneMill mill, int register, int lanes) {
        StringBuilder text = new StringBuilder();
        for (int lane = 0; lane < lanes; lane++) {
            text.append(lane == 0 ? "" : " ").append(mill.register(0, 0, lane, register));
        }
        return text.toString();
    }

    static String cells(LaneMill mill, int from, int to) {
        StringBuilder text = new StringBuilder();
        for (int cell = from; cell <= to; cell++) {
            text.append(cell == from ? "" : " ").append(mill.peek(cell));
        }
        return text.toString();
    }

    static String states(LaneMill mill) {
        StringBuilder text = new StringBuilder();
        for (int i = 0; i < mill.launches(); i++) {
            text.append(mill.state(i));
        }
        return text.toString();
    }

    /** The number of groups in each unit. */
    static String groups(LaneMill mill) {
        return mill.groups(0) + " " + mill.groups(1);
    }

    /** The threads of the lanes 0 of the groups in a unit, in the order in which they came. */
    static String threads(LaneMill mill, int unit) {
        StringBuilder text = new StringBuilder();
        for (int group = 0; group < mill.groups(unit); group++) {
            text.append(group == 0 ? "" : " ").append(mill.threadAt(unit, group));
        }
        return text.toString();
    }

    /** The places of the groups in a unit, or '-' for one of which no thread runs. */
    static String places(LaneMill mill, int unit) {
        StringBuilder text = new StringBuilder();
        for (int group = 0; group < mill.groups(unit); group++) {
            boolean isRunning = mill.mask(unit, group) != 0;
            text.append(group == 0 ? "" : " ").append(isRunning ? "" + mill.place(unit, group) : "-");
        }
        return text.toString();
    }

    static String racingCells(LaneMill mill, int launch) {
        StringBuilder text = new StringBuilder();
        for (int cell = 0; cell < 64; cell++) {
            text.append(mill.isRacing(launch, cell) ? "," + cell : "");
        }
        return text + "/" + mill.races(launch);
    }
}
