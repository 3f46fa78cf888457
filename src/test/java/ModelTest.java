import java.util.ArrayList;
import java.util.Arrays;
import java.util.List;
import java.util.NoSuchElementException;
import java.util.Random;
import java.util.TreeSet;

/**
 * Compares LaneMill with a slow model, on random machines from fixed seeds. The model is written
 * from the document by itself: it keeps lists of all accesses and looks at every pair of them.
 */
public final class ModelTest {
    private static final int MACHINES = 3000;
    /** Plain code, code of all letters, and code that is full of barriers, of banks, of children. */
    private static final String[] LETTERS = {
        "kk+-*<=tnlzjrwRWbfwwrr",
        "kk+-*<=tnlzjrwRWaxvsbfcewwrraxvsRW",
        "ktl<zzbbbbwrf",
        "ttllkRWRWRW*b",
        "kkktlcwrrwbaxl",
    };

    public static void main(String[] args) {
        int machines = args.length > 0 ? Integer.parseInt(args[0]) : MACHINES;
        int wrong = 0;
        Tally tally = new Tally();
        for (int seed = 0; seed < machines && wrong < 5; seed++) {
            String trouble = compareOne(seed, tally);
            if (trouble != null) {
                wrong++;
                System.out.println("seed " + seed + ": " + trouble);
            }
        }
        System.out.println(tally);
        if (!tally.hasSeenAll()) {
            System.out.println("the random machines do not reach all that the document tells");
            wrong++;
        }
        System.out.println(wrong == 0 ? "the model agrees" : "the model does not agree");
        if (wrong != 0) {
            System.exit(1);
        }
    }

    /** What the random machines came to; a test that never sees a fault proves nothing of it. */
    private static final class Tally {
        int done, failed, cancelled, racing, children, refused, barriers, serials, lost, misses;
        int faultG, faultS, faultB, fullBuffers;

        void add(Model m) {
            for (La la : m.las) {
                done += la.state == 'd' ? 1 : 0;
                failed += la.state == 'f' ? 1 : 0;
                cancelled += la.state == 'x' ? 1 : 0;
                children += la.parent != null ? 1 : 0;
                racing += m.races(la) > 0 ? 1 : 0;
                faultG += la.fault == 'g' ? 1 : 0;
                faultS += la.fault == 's' ? 1 : 0;
                faultB += la.fault == 'b' ? 1 : 0;
            }
            refused += m.refused;
            barriers += m.barriers;
            lost += m.lost;
            misses += m.misses;
            fullBuffers += m.fullBuffers;
        }

        boolean hasSeenAll() {
            for (int n : numbers()) {
                if (n < 20) {
                    return false;
                }
            }
            return true;
        }

        private int[] numbers() {
            return new int[] {done, failed, cancelled, racing, children, refused, barriers, serials,
                lost, misses, faultG, faultS, faultB, fullBuffers};
        }

        @Override
        public String toString() {
            return "done, failed, cancelled, racing, children, refused, barriers, serials, lost, misses,"
                + " faults g, s, b, full buffers: " + Arrays.toString(numbers());
        }
    }

    private static String compareOne(int seed, Tally tally) {
        Random random = new Random(seed);
        LaneMill mill = new LaneMill();
        Model model = new Model();
        int kernels = 1 + random.nextInt(4);
        for (int k = 0; k < kernels; k++) {
            makeKernel(random, mill, model, kernels);
        }
        for (int i = 0; i < 64; i++) {
            int value = random.nextInt(12);
            mill.poke(i, value);
            model.memory[i] = value;
        }
        for (int turn = 0; turn < 40; turn++) {
            String trouble = act(random, mill, model, tally);
            if (trouble == null) {
                trouble = differ(mill, model);
            }
            if (trouble != null) {
                return "turn " + turn + ": " + trouble;
            }
        }
        tally.add(model);
        return null;
    }

    private static void makeKernel(Random random, LaneMill mill, Model model, int kernels) {
        int registers = 2 + random.nextInt(4);
        int shared = random.nextBoolean() ? 0 : 1 + random.nextInt(16);
        int kernel = mill.addKernel(registers, shared);
        Ke ke = new Ke(registers, shared);
        model.kes.add(ke);
        int length = random.nextInt(12) == 0 ? random.nextInt(3) : 4 + random.nextInt(24);
        String letters = LETTERS[random.nextInt(LETTERS.length)];
        for (int i = 0; i < length; i++) {
            char letter = letters.charAt(random.nextInt(letters.length()));
            if (i < 3 && random.nextInt(4) > 0) {
                letter = "tnk".charAt(i);
            }
            if ("RW".indexOf(letter) >= 0 && (shared == 0 || i < 3) && random.nextInt(9) > 0) {
                letter = 'l';
            }
            int a = random.nextInt(registers);
            int b = random.nextInt(registers);
            int c = random.nextInt(registers);
            if (letter == 'k') {
                b = random.nextInt(30) == 0 ? 60 + random.nextInt(9) : random.nextInt(9) - random.nextInt(12) / 9;
            } else if (letter == 'z' || letter == 'j') {
                b = random.nextInt(6) == 0 ? random.nextInt(40) : Math.min(39, i + 1 + random.nextInt(5));
            } else if (letter == 'c') {
                b = random.nextInt(4);
            }
            if (mill.code(kernel, letter, a, b, c) != i) {
                throw new IllegalStateException("code");
            }
            ke.code.add(new int[] {letter, a, b, c});
        }
    }

    private static String act(Random random, LaneMill mill, Model model, Tally tally) {
        int kind = random.nextInt(12);
        if (kind < 3) {
            return launch(random, mill, model);
        }
        if (kind < 4) {
            return copy(random, mill, model);
        }
        if (kind < 5) {
            char order = "oya".charAt(random.nextInt(3));
            char before = model.order;
            model.order = order;
            return same("setOrder", mill.setOrder(order), before);
        }
        if (kind < 6) {
            return serial(random, mill, model, tally);
        }
        if (kind < 7 && random.nextInt(3) == 0) {
            int most = 1 + random.nextInt(120);
            int come = 0;
            while (come < most && !model.isAllOver()) {
                model.cycle();
                come++;
            }
            return same("run", mill.run(most), come);
        }
        int cycles = 1 + random.nextInt(kind == 7 ? 30 : 4);
        int before = model.instructions;
        for (int i = 0; i < cycles; i++) {
            model.cycle();
        }
        return same("step", mill.step(cycles), model.instructions - before);
    }

    private static String launch(Random random, LaneMill mill, Model model) {
        int queue = random.nextInt(2);
        int kernel = random.nextInt(model.kes.size());
        int blocks = 1 + random.nextInt(random.nextBoolean() ? 6 : 2);
        int threads = 1 + random.nextInt(random.nextBoolean() ? 16 : 4);
        int after = random.nextInt(3) > 0 ? -1 : random.nextInt(model.las.size() + 1) - 1;
        String want;
        if (model.fits(model.kes.get(kernel), threads) == 0) {
            want = "U";
        } else if (model.las.size() >= 12) {
            want = "S";
        } else {
            want = "" + model.las.size();
            La la = model.newLaunch(queue, after);
            la.ke = model.kes.get(kernel);
            la.ke.launched = true;
            la.blocks = blocks;
            la.threads = threads;
        }
        String got;
        try {
            got = "" + mill.launch(queue, kernel, blocks, threads, after);
        } catch (UnsupportedOperationException e) {
            got = "U";
        } catch (IllegalStateException e) {
            got = "S";
        }
        return got.equals(want) ? null : "launch: " + got + " for " + want;
    }

    private static String copy(Random random, LaneMill mill, Model model) {
        int cells = 1 + random.nextInt(8);
        int from = random.nextInt(64);
        int to = random.nextInt(64);
        int queue = random.nextInt(2);
        int after = random.nextInt(3) > 0 ? -1 : random.nextInt(model.las.size() + 1) - 1;
        String want;
        if (from + cells > 64 || to + cells > 64) {
            want = "A";
        } else if (model.las.size() >= 12) {
            want = "S";
        } else {
            want = "" + model.las.size();
            La la = model.newLaunch(queue, after);
            la.from = from;
            la.to = to;
            la.cells = cells;
        }
        String got;
        try {
            got = "" + mill.copy(queue, from, to, cells, after);
        } catch (IllegalArgumentException e) {
            got = "A";
        } catch (IllegalStateException e) {
            got = "S";
        }
        return got.equals(want) ? null : "copy: " + got + " for " + want;
    }

    private static String serial(Random random, LaneMill mill, Model model, Tally tally) {
        int kernel = random.nextInt(model.kes.size());
        int blocks = 1 + random.nextInt(6);
        int threads = 1 + random.nextInt(16);
        boolean isFalling = random.nextBoolean();
        int[] want = new int[64];
        String trouble = model.serial(model.kes.get(kernel), blocks, threads, isFalling, want);
        tally.serials += trouble == null ? 1 : 0;
        for (int cell = 0; cell < 64; cell += 1 + random.nextInt(8)) {
            String due = trouble == null ? "" + want[cell] : trouble;
            String got;
            try {
                got = "" + mill.serial(kernel, blocks, threads, isFalling, cell);
            } catch (UnsupportedOperationException e) {
                got = "U";
            } catch (IllegalStateException e) {
                got = "S";
            }
            if (!got.equals(due)) {
                return "serial: " + got + " for " + due;
            }
        }
        return null;
    }

    private static String same(String what, long got, long want) {
        return got == want ? null : what + " answered " + got + ", due is " + want;
    }

    private static String differ(LaneMill mill, Model model) {
        String got = describe(mill);
        String want = model.describe();
        if (got.equals(want)) {
            return null;
        }
        int at = 0;
        while (at < got.length() && at < want.length() && got.charAt(at) == want.charAt(at)) {
            at++;
        }
        int from = Math.max(0, at - 40);
        return "\n  got " + got.substring(from, Math.min(got.length(), at + 40)).replace('\n', '|')
            + "\n  due " + want.substring(from, Math.min(want.length(), at + 40)).replace('\n', '|');
    }

    private static String describe(LaneMill mill) {
        StringBuilder text = new StringBuilder();
        text.append("cycle ").append(mill.cycle());
        for (int i = 0; i < mill.launches(); i++) {
            text.append("\nlaunch ").append(i).append(mill.state(i)).append(mill.given(i));
            text.append(" parent ").append(parentOf(mill, i)).append(" fault ").append(faultOf(mill, i));
            text.append(" races ").append(mill.races(i)).append(':');
            for (int cell = 0; cell < 64; cell++) {
                text.append(mill.isRacing(i, cell) ? '1' : '0');
            }
        }
        for (int unit = 0; unit < 2; unit++) {
            for (int g = 0; g < mill.groups(unit); g++) {
                text.append("\nunit ").append(unit).append(" thread ").append(mill.threadAt(unit, g));
                text.append(" place ").append(placeOf(mill, unit, g)).append(" mask ").append(mill.mask(unit, g));
                text.append(" places ").append(mill.places(unit, g)).append(mill.reason(unit, g));
                text.append(" buffered ").append(mill.buffered(unit, g)).append(registersOf(mill, unit, g));
            }
        }
        text.append("\nmemory");
        for (int cell = 0; cell < 64; cell++) {
            text.append(' ').append(mill.peek(cell));
        }
        text.append("\nfigures ").append(mill.lanes()).append(' ').append(mill.misses()).append(' ');
        text.append(mill.lost()).append(' ').append(mill.barriers()).append(' ').append(mill.refused());
        text.append(' ').append(shareOf(mill)).append(' ').append(meanOf(mill)).append(mill.isSound());
        return text.toString();
    }

    private static String parentOf(LaneMill mill, int launch) {
        try {
            return "" + mill.parent(launch);
        } catch (NoSuchElementException e) {
            return "none";
        }
    }

    private static String faultOf(LaneMill mill, int launch) {
        try {
            return "" + mill.fault(launch) + mill.faultAt(launch);
        } catch (NoSuchElementException e) {
            return "none";
        }
    }

    private static String placeOf(LaneMill mill, int unit, int group) {
        try {
            return "" + mill.place(unit, group);
        } catch (NoSuchElementException e) {
            return "none";
        }
    }

    private static String registersOf(LaneMill mill, int unit, int group) {
        StringBuilder text = new StringBuilder();
        for (int lane = 0; lane < 5; lane++) {
            for (int register = 0; register < 9; register++) {
                try {
                    text.append(" " + mill.register(unit, group, lane, register));
                } catch (IndexOutOfBoundsException e) {
                    text.append(" none");
                }
            }
        }
        for (int cell = 0; cell < 17; cell++) {
            try {
                text.append(" s" + mill.shared(unit, group, cell));
            } catch (IndexOutOfBoundsException e) {
                text.append(" none");
            }
        }
        return text.toString();
    }

    private static String shareOf(LaneMill mill) {
        try {
            return "" + mill.usedShare();
        } catch (ArithmeticException e) {
            return "none";
        }
    }

    private static String meanOf(LaneMill mill) {
        try {
            return "" + mill.meanDelay();
        } catch (ArithmeticException e) {
            return "none";
        }
    }

    // ---- the model

    private static final class Ke {
        final int regs, shared;
        final List<int[]> code = new ArrayList<>();
        boolean launched;

        Ke(int regs, int shared) {
            this.regs = regs;
            this.shared = shared;
        }
    }

    private static final class La {
        int number, queue = -1, blocks, threads, given, ended, from, to, cells, moved, faultAt;
        La ahead, after, parent;
        boolean aheadCounts;
        Ke ke;
        char state = 'q', fault = '-';
        /** Rows of: 0 global or 1 + block for shared, cell, block, thread, 1 if writing, barriers passed. */
        final List<int[]> accesses = new ArrayList<>();

        boolean over() {
            return "dfx".indexOf(state) >= 0;
        }
    }

    private static final class Th {
        int n, place;
        int[] reg;
        char st = 'r';
    }

    private static final class Bl {
        La la;
        int n, passed;
        final List<Th> ths = new ArrayList<>();
        final List<Gr> grs = new ArrayList<>();
        int[] sh;
    }

    private static final class Gr {
        Bl bl;
        int index, ready;
        final List<int[]> buffer = new ArrayList<>();

        List<Th> running() {
            List<Th> found = new ArrayList<>();
            for (Th th : all()) {
                if (th.st == 'r') {
                    found.add(th);
                }
            }
            return found;
        }

        List<Th> all() {
            return bl.ths.subList(4 * index, Math.min(bl.ths.size(), 4 * index + 4));
        }

        List<Th> under() {
            List<Th> found = new ArrayList<>();
            TreeSet<Integer> places = places();
            for (Th th : running()) {
                if (th.place == places.first()) {
                    found.add(th);
                }
            }
            return found;
        }

        TreeSet<Integer> places() {
            TreeSet<Integer> places = new TreeSet<>();
            for (Th th : running()) {
                places.add(th.place);
            }
            return places;
        }

        boolean isEnded() {
            for (Th th : all()) {
                if (th.st != 'e') {
                    return false;
                }
            }
            return true;
        }
    }

    private static final class Fault extends RuntimeException {
        final char letter;
        final Th th;

        Fault(char letter, Th th) {
            super("fault", null, false, false);
            this.letter = letter;
            this.th = th;
        }
    }

    private static final class Model {
        final List<Ke> kes = new ArrayList<>();
        final List<La> las = new ArrayList<>();
        final int[] memory = new int[64];
        final List<List<Gr>> units = List.of(new ArrayList<>(), new ArrayList<>());
        final int[][] lines = {{-1, -1}, {-1, -1}};
        final Gr[] lastOf = new Gr[2];
        char order = 'o';
        int cycle, instructions, misses, lost, barriers, refused, delays, fullBuffers;
        long lanes, delaySum;

        int fits(Ke ke, int threads) {
            int n = 0;
            while ((n + 1) * ((threads + 3) / 4) <= 4 && (n + 1) * threads * ke.regs <= 64
                && (n + 1) * ke.shared <= 32) {
                n++;
            }
            return n;
        }

        La newLaunch(int queue, int after) {
            La la = new La();
            la.number = las.size();
            la.queue = queue;
            la.after = after < 0 ? null : las.get(after);
            for (La other : las) {
                if (other.queue == queue) {
                    la.ahead = other;
                }
            }
            la.aheadCounts = la.ahead != null && !la.ahead.over();
            las.add(la);
            return la;
        }

        boolean isAllOver() {
            return las.stream().allMatch(La::over);
        }

        void cycle() {
            for (int queue = 0; queue < 2; queue++) {
                while (first(queue) != null && first(queue).state == 'q') {
                    La la = first(queue);
                    if (la.aheadCounts && "fx".indexOf(la.ahead.state) >= 0
                        || la.after != null && "fx".indexOf(la.after.state) >= 0) {
                        la.state = 'x';
                    } else if (la.after != null && !la.after.over()) {
                        break;
                    } else {
                        la.state = 'r';
                    }
                }
            }
            for (La la : las) {
                if (la.parent != null && la.state == 'q') {
                    la.state = 'r';
                }
            }
            for (La la : las) {
                if (la.ke == null && la.state == 'r') {
                    memory[la.to + la.moved] = memory[la.from + la.moved];
                    la.moved++;
                    if (la.moved == la.cells) {
                        la.state = 'd';
                    }
                }
            }
            for (La la : las) {
                while (la.ke != null && la.state == 'r' && la.given < la.blocks && giveOne(la)) {
                    look();
                }
            }
            for (int unit = 0; unit < 2; unit++) {
                Gr gr = choose(unit);
                if (gr != null) {
                    lastOf[unit] = gr;
                    carry(unit, gr);
                    look();
                }
            }
            if (cycle % 3 == 2) {
                for (List<Gr> unit : units) {
                    for (Gr gr : unit) {
                        writeOne(gr);
                    }
                }
            }
            cycle++;
        }

        La first(int queue) {
            for (La la : las) {
                if (la.queue == queue && !la.over()) {
                    return la;
                }
            }
            return null;
        }

        boolean giveOne(La la) {
            int best = -1;
            for (int unit = 0; unit < 2; unit++) {
                int groups = (la.threads + 3) / 4;
                int regs = la.threads * la.ke.regs;
                int shared = la.ke.shared;
                for (Bl bl : blocksIn(unit)) {
                    groups += bl.grs.size();
                    regs += bl.ths.size() * bl.la.ke.regs;
                    shared += bl.la.ke.shared;
                }
                if (groups <= 4 && regs <= 64 && shared <= 32
                    && (best < 0 || units.get(unit).size() < units.get(best).size())) {
                    best = unit;
                }
            }
            if (best < 0) {
                return false;
            }
            Bl bl = new Bl();
            bl.la = la;
            bl.n = la.given++;
            bl.sh = new int[la.ke.shared];
            for (int i = 0; i < la.threads; i++) {
                Th th = new Th();
                th.n = i;
                th.reg = new int[la.ke.regs];
                bl.ths.add(th);
                if (i % 4 == 0) {
                    Gr gr = new Gr();
                    gr.bl = bl;
                    gr.index = i / 4;
                    bl.grs.add(gr);
                    units.get(best).add(gr);
                }
            }
            return true;
        }

        List<Bl> blocksIn(int unit) {
            List<Bl> found = new ArrayList<>();
            for (Gr gr : units.get(unit)) {
                if (!found.contains(gr.bl)) {
                    found.add(gr.bl);
                }
            }
            return found;
        }

        /** Brings about what is to happen at once, in all units, until nothing is left to do. */
        void look() {
            boolean isMoving = true;
            while (isMoving) {
                isMoving = false;
                for (int unit = 0; unit < 2; unit++) {
                    for (Bl bl : blocksIn(unit)) {
                        isMoving |= lookAt(unit, bl);
                    }
                }
                for (La la : las) {
                    if (la.ke != null && la.state == 'r' && la.ended == la.blocks
                        && las.stream().allMatch(child -> child.parent != la || child.over())) {
                        la.state = 'd';
                        isMoving = true;
                    }
                }
            }
        }

        boolean lookAt(int unit, Bl bl) {
            for (Th th : bl.ths) {
                if (th.st == 'r' && th.place >= bl.la.ke.code.size()) {
                    th.st = 'e';
                }
            }
            for (Gr gr : bl.grs) {
                if (gr.isEnded()) {
                    writeAll(gr);
                }
            }
            if (bl.ths.stream().allMatch(th -> th.st == 'e')) {
                units.get(unit).removeIf(gr -> gr.bl == bl);
                bl.la.ended++;
                return true;
            }
            if (bl.ths.stream().noneMatch(th -> th.st == 'r')) {
                try {
                    barrier(bl.ths);
                    bl.passed++;
                    barriers++;
                } catch (Fault fault) {
                    fail(bl, fault);
                }
                return true;
            }
            return false;
        }

        void barrier(List<Th> ths) {
            TreeSet<Integer> places = new TreeSet<>();
            for (Th th : ths) {
                if (th.st == 'w') {
                    places.add(th.place);
                }
            }
            for (Th th : ths) {
                if (th.st == 'w' && places.size() > 1) {
                    throw new Fault('b', th);
                }
                if (th.st == 'w') {
                    th.st = 'r';
                    th.place++;
                }
            }
        }

        void fail(Bl bl, Fault fault) {
            bl.la.state = 'f';
            bl.la.fault = fault.letter;
            bl.la.faultAt = 10000 * bl.n + 100 * fault.th.n + fault.th.place;
            for (List<Gr> unit : units) {
                unit.removeIf(gr -> gr.bl.la == bl.la);
            }
        }

        Gr choose(int unit) {
            List<Gr> list = new ArrayList<>(units.get(unit));
            if (order == 'y') {
                java.util.Collections.reverse(list);
            }
            if (order == 'a') {
                java.util.Collections.rotate(list, -1 - list.indexOf(lastOf[unit]));
            }
            for (Gr gr : list) {
                if (!gr.running().isEmpty() && gr.ready <= cycle) {
                    return gr;
                }
            }
            return null;
        }

        void writeOne(Gr gr) {
            if (!gr.buffer.isEmpty()) {
                int[] write = gr.buffer.remove(0);
                memory[write[0]] = write[1];
            }
        }

        int writeAll(Gr gr) {
            int written = gr.buffer.size();
            while (!gr.buffer.isEmpty()) {
                writeOne(gr);
            }
            return written;
        }

        void carry(int unit, Gr gr) {
            instructions++;
            List<Th> under = gr.under();
            int[] in = gr.bl.la.ke.code.get(under.get(0).place);
            char letter = (char) in[0];
            int[][] before = new int[4][];
            List<Integer> cells = new ArrayList<>();
            for (Th th : under) {
                before[th.n % 4] = th.reg.clone();
                if ("rwaxRW".indexOf(letter) >= 0) {
                    cells.add(th.reg["wW".indexOf(letter) >= 0 ? in[1] : in[2]]);
                }
            }
            int written = 0;
            if ("axbf".indexOf(letter) >= 0) {
                written = writeAll(gr);
            }
            for (Th th : under) {
                try {
                    written += lane(gr, th, in, before);
                } catch (Fault fault) {
                    fail(gr.bl, fault);
                    return;
                }
                lanes++;
            }
            int delay = delay(unit, letter, cells, written, under.size());
            gr.ready = cycle + delay;
            delaySum += delay;
            delays++;
            if (letter == 'R' || letter == 'W') {
                lost += delay - 1;
            }
        }

        int delay(int unit, char letter, List<Integer> cells, int written, int lanes) {
            if (letter == '*') {
                return 2;
            }
            if (letter == 'R' || letter == 'W') {
                int[] banks = new int[4];
                for (int cell : new TreeSet<>(cells)) {
                    banks[cell % 4]++;
                }
                return Arrays.stream(banks).max().getAsInt();
            }
            if (letter == 'r') {
                int delay = 0;
                List<Integer> looked = new ArrayList<>();
                for (int cell : cells) {
                    int line = cell / 8;
                    if (looked.contains(line)) {
                        continue;
                    }
                    looked.add(line);
                    delay += 2;
                    if (lines[unit][line % 2] != line) {
                        delay += 4;
                        misses++;
                        lines[unit][line % 2] = line;
                    }
                }
                return delay;
            }
            if (letter == 'w' || letter == 'f') {
                return 1 + written;
            }
            return letter == 'a' || letter == 'x' ? 2 * lanes : letter == 'c' ? 4 * lanes : 1;
        }

        int global(Th th, int cell) {
            if (cell < 0 || cell >= 64) {
                throw new Fault('g', th);
            }
            return cell;
        }

        int sharedCell(Th th, int cell, int room) {
            if (cell < 0 || cell >= room) {
                throw new Fault('s', th);
            }
            return cell;
        }

        int lane(Gr gr, Th th, int[] in, int[][] before) {
            Bl bl = gr.bl;
            int[] own = before[th.n % 4];
            int a = in[1], b = in[2], c = in[3], written = 0, cell;
            switch ((char) in[0]) {
                case 'r':
                    cell = global(th, own[b]);
                    bl.la.accesses.add(new int[] {0, cell, bl.n, th.n, 0, bl.passed});
                    th.reg[a] = memory[cell];
                    for (int[] write : gr.buffer) {
                        th.reg[a] = write[0] == cell ? write[1] : th.reg[a];
                    }
                    break;
                case 'w':
                    cell = global(th, own[a]);
                    bl.la.accesses.add(new int[] {0, cell, bl.n, th.n, 1, bl.passed});
                    if (gr.buffer.size() == 4) {
                        writeOne(gr);
                        written = 1;
                        fullBuffers++;
                    }
                    gr.buffer.add(new int[] {cell, own[b]});
                    break;
                case 'R':
                    cell = sharedCell(th, own[b], bl.sh.length);
                    bl.la.accesses.add(new int[] {1 + bl.n, cell, bl.n, th.n, 0, bl.passed});
                    th.reg[a] = bl.sh[cell];
                    break;
                case 'W':
                    cell = sharedCell(th, own[a], bl.sh.length);
                    bl.la.accesses.add(new int[] {1 + bl.n, cell, bl.n, th.n, 1, bl.passed});
                    bl.sh[cell] = own[b];
                    break;
                case 'a':
                case 'x':
                    cell = global(th, own[b]);
                    bl.la.accesses.add(new int[] {0, cell, bl.n, th.n, 0, bl.passed});
                    th.reg[a] = memory[cell];
                    memory[cell] = in[0] == 'a' ? memory[cell] + own[c] : own[c];
                    break;
                case 'v':
                    th.reg[a] = 0;
                    for (int lane = 0; lane < 4; lane++) {
                        if (before[lane] != null && before[lane][b] != 0) {
                            th.reg[a] += (int) Math.pow(2, lane);
                        }
                    }
                    break;
                case 's':
                    int other = ((own[c] % 4) + 4) % 4;
                    th.reg[a] = before[other] != null ? before[other][b] : own[b];
                    break;
                case 'c':
                    th.reg[a] = child(bl.la, b, own[c]);
                    break;
                default:
                    plain(th, in, bl.n);
                    return 0;
            }
            th.place++;
            return written;
        }

        int child(La parent, int kernel, int threads) {
            int depth = 1;
            for (La la = parent; la.parent != null; la = la.parent) {
                depth++;
            }
            if (kernel >= kes.size() || threads < 1 || threads > 16
                || fits(kes.get(kernel), threads) == 0 || las.size() == 12 || depth > 2) {
                refused++;
                return 0;
            }
            La la = new La();
            la.number = las.size();
            la.parent = parent;
            la.ke = kes.get(kernel);
            la.ke.launched = true;
            la.blocks = 1;
            la.threads = threads;
            las.add(la);
            return 1;
        }

        void plain(Th th, int[] in, int block) {
            int a = in[1], b = in[2], c = in[3];
            int[] r = th.reg;
            th.place++;
            switch ((char) in[0]) {
                case 'k': r[a] = b; break;
                case '+': r[a] = r[b] + r[c]; break;
                case '-': r[a] = r[b] - r[c]; break;
                case '*': r[a] = r[b] * r[c]; break;
                case '<': r[a] = r[b] < r[c] ? 1 : 0; break;
                case '=': r[a] = r[b] == r[c] ? 1 : 0; break;
                case 't': r[a] = th.n; break;
                case 'n': r[a] = block; break;
                case 'l': r[a] = th.n % 4; break;
                case 'z': th.place = r[a] == 0 ? b : th.place; break;
                case 'j': th.place = b; break;
                case 'b': th.place--; th.st = 'w'; break;
                case 'e': th.place--; th.st = 'e'; break;
                case 'f': break;
                default: throw new IllegalStateException("letter " + (char) in[0]);
            }
        }

        int races(La la) {
            return racing(la).size();
        }

        /** The cells with races, as 100 times 0 or 1 + block, plus the cell. */
        TreeSet<Integer> racing(La la) {
            TreeSet<Integer> found = new TreeSet<>();
            for (int[] one : la.accesses) {
                for (int[] two : la.accesses) {
                    boolean isSameCell = one[0] == two[0] && one[1] == two[1];
                    boolean isSameThread = one[2] == two[2] && one[3] == two[3];
                    boolean isApart = one[2] == two[2] && one[5] != two[5];
                    if (isSameCell && !isSameThread && one[4] + two[4] > 0 && !isApart) {
                        found.add(100 * one[0] + one[1]);
                    }
                }
            }
            return found;
        }

        /** Answers null, or the letter of the exception. */
        String serial(Ke ke, int blocks, int threads, boolean isFalling, int[] out) {
            for (int[] in : ke.code) {
                if ("vsc".indexOf(in[0]) >= 0) {
                    return "U";
                }
            }
            System.arraycopy(memory, 0, out, 0, 64);
            try {
                for (int i = 0; i < blocks; i++) {
                    serialBlock(ke, isFalling ? blocks - 1 - i : i, threads, isFalling, out);
                }
            } catch (Fault fault) {
                return "S";
            }
            return null;
        }

        void serialBlock(Ke ke, int block, int threads, boolean isFalling, int[] out) {
            List<Th> ths = new ArrayList<>();
            int[] carried = new int[16];
            int[] sh = new int[ke.shared];
            for (int i = 0; i < threads; i++) {
                Th th = new Th();
                th.n = i;
                th.reg = new int[ke.regs];
                ths.add(th);
            }
            while (true) {
                for (int i = 0; i < threads; i++) {
                    Th th = ths.get(isFalling ? threads - 1 - i : i);
                    while (th.st == 'r') {
                        if (th.place >= ke.code.size()) {
                            th.st = 'e';
                            break;
                        }
                        if (++carried[th.n] > 200) {
                            throw new Fault('-', th);
                        }
                        serialOne(th, ke.code.get(th.place), block, out, sh);
                    }
                }
                if (ths.stream().allMatch(th -> th.st == 'e')) {
                    return;
                }
                barrier(ths);
            }
        }

        void serialOne(Th th, int[] in, int block, int[] out, int[] sh) {
            int[] r = th.reg;
            switch ((char) in[0]) {
                case 'r': r[in[1]] = out[global(th, r[in[2]])]; break;
                case 'w': out[global(th, r[in[1]])] = r[in[2]]; break;
                case 'R': r[in[1]] = sh[sharedCell(th, r[in[2]], sh.length)]; break;
                case 'W': sh[sharedCell(th, r[in[1]], sh.length)] = r[in[2]]; break;
                case 'a':
                case 'x':
                    int cell = global(th, r[in[2]]);
                    int operand = r[in[3]];
                    r[in[1]] = out[cell];
                    out[cell] = in[0] == 'a' ? out[cell] + operand : operand;
                    break;
                default: plain(th, in, block); return;
            }
            th.place++;
        }

        String describe() {
            StringBuilder text = new StringBuilder();
            text.append("cycle ").append(cycle);
            for (La la : las) {
                text.append("\nlaunch ").append(la.number).append(la.state).append(la.given);
                text.append(" parent ").append(la.parent == null ? "none" : "" + la.parent.number);
                text.append(" fault ").append(la.state == 'f' ? "" + la.fault + la.faultAt : "none");
                TreeSet<Integer> racing = racing(la);
                text.append(" races ").append(racing.size()).append(':');
                for (int cell = 0; cell < 64; cell++) {
                    text.append(racing.contains(cell) ? '1' : '0');
                }
            }
            for (int unit = 0; unit < 2; unit++) {
                for (Gr gr : units.get(unit)) {
                    text.append("\nunit ").append(unit).append(describe(gr));
                }
            }
            text.append("\nmemory");
            for (int value : memory) {
                text.append(' ').append(value);
            }
            text.append("\nfigures ").append(lanes).append(' ').append(misses).append(' ');
            text.append(lost).append(' ').append(barriers).append(' ').append(refused).append(' ');
            text.append(instructions == 0 ? "none" : "" + (float) lanes / (float) (4 * instructions)).append(' ');
            text.append(delays == 0 ? "none" : "" + (double) delaySum / (double) delays);
            return text.append("true").toString();
        }

        String describe(Gr gr) {
            StringBuilder text = new StringBuilder();
            List<Th> running = gr.running();
            int mask = 0;
            for (Th th : gr.under()) {
                mask += 1 << th.n % 4;
            }
            text.append(" thread ").append(1000 * gr.bl.la.number + 100 * gr.bl.n + 4 * gr.index);
            text.append(" place ").append(running.isEmpty() ? "none" : "" + gr.places().first());
            text.append(" mask ").append(mask).append(" places ").append(gr.places().size());
            text.append(running.isEmpty() ? (gr.isEnded() ? 'e' : 'b') : cycle < gr.ready ? 'd' : '-');
            text.append(" buffered ").append(gr.buffer.size());
            for (int lane = 0; lane < 5; lane++) {
                for (int register = 0; register < 9; register++) {
                    boolean isThere = lane < gr.all().size() && register < gr.bl.la.ke.regs;
                    text.append(isThere ? " " + gr.all().get(lane).reg[register] : " none");
                }
            }
            for (int cell = 0; cell < 17; cell++) {
                text.append(cell < gr.bl.sh.length ? " s" + gr.bl.sh[cell] : " none");
            }
            return text.toString();
        }
    }
}
