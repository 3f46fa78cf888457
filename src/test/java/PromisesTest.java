/** Each promise of the document, with ordinary inputs, the edges and wrong inputs. */
public final class PromisesTest extends Checks {
    public static void main(String[] args) {
        newObject();
        kernels();
        code();
        codeOfLaunched();
        fits();
        memory();
        launchExceptions();
        copies();
        copyExceptions();
        queues();
        cancelled();
        afterAnother();
        givenBlocks();
        emptyKernel();
        stepAndRun();
        orders();
        orderAround();
        groupsInUnits();
        room();
        masksAndPlaces();
        reasons();
        registersAndShared();
        reckoning();
        votesAndShuffles();
        exchanges();
        reads();
        buffers();
        bufferWrittenAtEnds();
        trickle();
        delays();
        readDelays();
        bankDelays();
        writeDelays();
        barriers();
        barrierFaults();
        faults();
        faultEdges();
        children();
        refusedChildren();
        parentsThatFail();
        races();
        sharedRaces();
        serial();
        serialExceptions();
        figures();
        sameMemoryForEachOrder();
        end();
    }

    // ---- promises 1 to 6

    private static void newObject() {
        LaneMill mill = new LaneMill();
        due("cycle", mill.cycle(), 0);
        due("launches", mill.launches(), 0);
        due("groups 0", mill.groups(0), 0);
        due("groups 1", mill.groups(1), 0);
        due("lanes", mill.lanes(), 0L);
        due("figures", "" + mill.misses() + mill.lost() + mill.barriers() + mill.refused(), "0000");
        due("cells", cells(mill, 0, 63).replace(" ", ""), "0".repeat(64));
        due("isSound", mill.isSound(), true);
        due("order", mill.setOrder('o'), 'o');
        refuses("kernel 0", INDEX, () -> mill.fits(0, 1));
        refuses("usedShare", ARITHMETIC, mill::usedShare);
        refuses("meanDelay", ARITHMETIC, mill::meanDelay);
    }

    private static void kernels() {
        LaneMill mill = new LaneMill();
        for (int[] bad : new int[][] {{0, 0}, {9, 0}, {1, -1}, {1, 17}, {LEAST, 0}, {GREATEST, 0},
            {1, LEAST}, {1, GREATEST}}) {
            refuses("addKernel " + bad[0] + " " + bad[1], ARGUMENT, () -> mill.addKernel(bad[0], bad[1]));
        }
        due("first", mill.addKernel(1, 0), 0);
        due("second", mill.addKernel(8, 16), 1);
        due("third", mill.addKernel(1, 16), 2);
        due("fourth", mill.addKernel(8, 0), 3);
        refuses("fifth", STATE, () -> mill.addKernel(1, 0));
        refuses("fifth, wrong", ARGUMENT, () -> mill.addKernel(0, 0));
        refuses("kernel 4", INDEX, () -> mill.fits(4, 1));
    }

    private static void code() {
        String letters = "k+-*<=tnlzjrwRWaxvsbfce";
        String a = "k+-*<=tnlzrwRWaxvsc";
        String b = "+-*<=rwRWaxvs";
        String c = "+-*<=axsc";
        for (int i = 0; i < 260; i++) {
            char letter = (char) i;
            LaneMill mill = new LaneMill();
            mill.addKernel(2, 0);
            if (letters.indexOf(letter) < 0) {
                refuses("letter " + i, ARGUMENT, () -> mill.code(0, letter, 0, 0, 0));
                continue;
            }
            for (int bad : new int[] {2, -1, LEAST, GREATEST}) {
                codeNumber(mill, letter, bad, 0, 0, a.indexOf(letter) >= 0);
                boolean isPlace = "zj".indexOf(letter) >= 0;
                codeNumber(mill, letter, 0, bad, 0, b.indexOf(letter) >= 0
                    || (isPlace || letter == 'c') && bad != 2);
                codeNumber(mill, letter, 0, 0, bad, c.indexOf(letter) >= 0);
            }
            codeNumber(mill, letter, 1, 1, 1, false);
        }
        LaneMill mill = new LaneMill();
        mill.addKernel(1, 0);
        refuses("z to 40", ARGUMENT, () -> mill.code(0, 'z', 0, 40, 0));
        refuses("j to 40", ARGUMENT, () -> mill.code(0, 'j', 0, 40, 0));
        refuses("c of 4", ARGUMENT, () -> mill.code(0, 'c', 0, 4, 0));
        due("z to 39", mill.code(0, 'z', 0, 39, 0), 0);
        due("j to 39", mill.code(0, 'j', 0, 39, 0), 1);
        due("c of 3", mill.code(0, 'c', 0, 3, 0), 2);
        for (int i = 3; i < 40; i++) {
            due("number", mill.code(0, 'e', 0, 0, 0), i);
        }
        refuses("41st", STATE, () -> mill.code(0, 'e', 0, 0, 0));
        refuses("41st, wrong", ARGUMENT, () -> mill.code(0, 't', 1, 0, 0));
        refuses("kernel -1", INDEX, () -> mill.code(-1, 'q', 9, 9, 9));
        refuses("kernel 1", INDEX, () -> mill.code(1, 'e', 0, 0, 0));
        refuses("kernel least", INDEX, () -> mill.code(LEAST, 'e', 0, 0, 0));
        refuses("kernel greatest", INDEX, () -> mill.code(GREATEST, 'e', 0, 0, 0));
        mill.addKernel(1, 0);
        due("first of kernel 1", mill.code(1, 'e', 0, 0, 0), 0);
    }

    private static void codeNumber(LaneMill mill, char letter, int a, int b, int c, boolean isWrong) {
        String got;
        try {
            mill.code(0, letter, a, b, c);
            got = "taken";
        } catch (IllegalArgumentException e) {
            got = "refused";
        }
        due("code " + letter + " " + a + " " + b + " " + c, got, isWrong ? "refused" : "taken");
    }

    private static void codeOfLaunched() {
        LaneMill mill = new LaneMill();
        kernel(mill, 1, 0, "k 0 1", "c 0 1 0", "c 0 2 0");
        kernel(mill, 1, 0, "e");
        kernel(mill, 8, 0, "e");
        mill.launch(0, 0, 1, 1, -1);
        refuses("launched", STATE, () -> mill.code(0, 'e', 0, 0, 0));
        refuses("launched, wrong", ARGUMENT, () -> mill.code(0, 'q', 0, 0, 0));
        due("not yet", mill.code(1, 'e', 0, 0, 0), 1);
        mill.step(2);
        refuses("child", STATE, () -> mill.code(1, 'e', 0, 0, 0));
        LaneMill other = new LaneMill();
        kernel(other, 1, 0, "k 0 9", "c 0 1 0");
        kernel(other, 8, 0, "e");
        refuses("too large", UNSUPPORTED, () -> other.launch(0, 1, 1, 9, -1));
        other.launch(0, 0, 1, 1, -1);
        other.run(20);
        due("refused", other.refused(), 1);
        due("code of refused", other.code(1, 'e', 0, 0, 0), 1);
    }

    private static void fits() {
        LaneMill mill = new LaneMill();
        mill.addKernel(1, 0);
        mill.addKernel(8, 16);
        mill.addKernel(4, 8);
        mill.addKernel(2, 11);
        int[][] rows = {{0, 1, 4}, {0, 4, 4}, {0, 5, 2}, {0, 8, 2}, {0, 9, 1}, {0, 16, 1}, {1, 1, 2},
            {1, 4, 2}, {1, 5, 1}, {1, 8, 1}, {1, 9, 0}, {1, 16, 0}, {2, 4, 4}, {2, 6, 2}, {2, 16, 1},
            {3, 1, 2}, {3, 8, 2}, {3, 12, 1}};
        for (int[] row : rows) {
            due("fits " + row[0] + " " + row[1], mill.fits(row[0], row[1]), row[2]);
        }
        for (int bad : new int[] {0, 17, -1, LEAST, GREATEST}) {
            refuses("threads " + bad, ARGUMENT, () -> mill.fits(0, bad));
        }
        for (int bad : new int[] {4, -1, LEAST, GREATEST}) {
            refuses("kernel " + bad, INDEX, () -> mill.fits(bad, 0));
        }
    }

    private static void memory() {
        LaneMill mill = new LaneMill();
        due("poke", mill.poke(0, 5), 0);
        due("poke again", mill.poke(0, LEAST), 5);
        due("peek", mill.peek(0), LEAST);
        due("poke 63", mill.poke(63, GREATEST), 0);
        due("peek 63", mill.peek(63), GREATEST);
        for (int bad : new int[] {64, -1, LEAST, GREATEST}) {
            refuses("poke " + bad, INDEX, () -> mill.poke(bad, 1));
            refuses("peek " + bad, INDEX, () -> mill.peek(bad));
        }
        due("between", mill.peek(1) + mill.peek(62), 0);
    }

    // ---- promises 7 to 16

    private static void launchExceptions() {
        LaneMill mill = new LaneMill();
        kernel(mill, 1, 0, "e");
        kernel(mill, 8, 0, "e");
        for (int bad : new int[] {-1, 2, LEAST, GREATEST}) {
            refuses("queue " + bad, INDEX, () -> mill.launch(bad, 0, 0, 0, -1));
            refuses("kernel " + bad, INDEX, () -> mill.launch(0, bad, 0, 0, -1));
        }
        for (int bad : new int[] {-2, 0, 12, LEAST, GREATEST}) {
            refuses("after " + bad, INDEX, () -> mill.launch(0, 0, 0, 0, bad));
        }
        for (int bad : new int[] {0, 7, -1, LEAST, GREATEST}) {
            refuses("blocks " + bad, ARGUMENT, () -> mill.launch(0, 1, bad, 16, -1));
        }
        for (int bad : new int[] {0, 17, -1, LEAST, GREATEST}) {
            refuses("threads " + bad, ARGUMENT, () -> mill.launch(0, 1, 1, bad, -1));
        }
        refuses("too large", UNSUPPORTED, () -> mill.launch(0, 1, 1, 9, -1));
        due("launches", mill.launches(), 0);
        for (int i = 0; i < 12; i++) {
            due("number", mill.launch(i % 2, i % 2, 6, 8, i - 1), i);
        }
        due("launches", mill.launches(), 12);
        refuses("13th", STATE, () -> mill.launch(0, 0, 1, 1, 11));
        refuses("13th, too large", UNSUPPORTED, () -> mill.launch(0, 1, 1, 16, 11));
        refuses("13th, threads", ARGUMENT, () -> mill.launch(0, 1, 1, 17, 11));
        refuses("13th, after", INDEX, () -> mill.launch(0, 1, 1, 17, 12));
        refuses("13th, copy", STATE, () -> mill.copy(0, 0, 0, 1, -1));
        refuses("13th, copy of 65", ARGUMENT, () -> mill.copy(0, 0, 0, 65, -1));
        due("launches", mill.launches(), 12);
        due("states", states(mill), "qqqqqqqqqqqq");
        for (int bad : new int[] {12, -1, LEAST, GREATEST}) {
            refuses("state", INDEX, () -> mill.state(bad));
            refuses("parent", INDEX, () -> mill.parent(bad));
            refuses("given", INDEX, () -> mill.given(bad));
            refuses("fault", INDEX, () -> mill.fault(bad));
            refuses("faultAt", INDEX, () -> mill.faultAt(bad));
            refuses("races", INDEX, () -> mill.races(bad));
            refuses("isRacing", INDEX, () -> mill.isRacing(bad, 0));
        }
        refuses("no parent", NO_ELEMENT, () -> mill.parent(0));
        refuses("no fault", NO_ELEMENT, () -> mill.fault(0));
        refuses("no fault at", NO_ELEMENT, () -> mill.faultAt(0));
    }

    private static void copies() {
        LaneMill mill = new LaneMill();
        mill.poke(0, 5);
        mill.poke(1, 6);
        mill.poke(2, 7);
        due("copy", mill.copy(0, 0, 1, 3, -1), 0);
        due("other copy", mill.copy(1, 1, 10, 2, -1), 1);
        due("queued", states(mill), "qq");
        due("step", mill.step(1), 0);
        due("cells", cells(mill, 0, 3) + " " + cells(mill, 10, 11), "5 5 7 0 5 0");
        due("running", states(mill), "rr");
        mill.step(1);
        due("cells", cells(mill, 0, 3) + " " + cells(mill, 10, 11), "5 5 5 0 5 5");
        due("one done", states(mill), "rd");
        mill.poke(2, 9);
        mill.step(1);
        due("cells", cells(mill, 0, 3), "5 5 9 9");
        due("both done", states(mill), "dd");
        due("given", mill.given(0), 0);
        due("races", racingCells(mill, 0), "/0");
        refuses("fault", NO_ELEMENT, () -> mill.fault(0));
        refuses("parent", NO_ELEMENT, () -> mill.parent(0));
        LaneMill whole = new LaneMill();
        whole.poke(63, 4);
        whole.copy(0, 0, 0, 64, -1);
        due("64 cells", whole.run(500), 64);
        due("last cell", whole.peek(63), 4);
        LaneMill last = new LaneMill();
        last.poke(0, 8);
        last.copy(0, 0, 63, 1, -1);
        due("one cell", last.run(500), 1);
        due("cell 63", last.peek(63), 8);
    }

    private static void copyExceptions() {
        LaneMill mill = new LaneMill();
        for (int bad : new int[] {-1, 2, LEAST, GREATEST}) {
            refuses("queue " + bad, INDEX, () -> mill.copy(bad, 0, 0, 0, -1));
        }
        for (int bad : new int[] {-2, 0, LEAST, GREATEST}) {
            refuses("after " + bad, INDEX, () -> mill.copy(0, 0, 0, 0, bad));
        }
        for (int bad : new int[] {0, 65, -1, LEAST, GREATEST}) {
            refuses("cells " + bad, ARGUMENT, () -> mill.copy(0, 0, 0, bad, -1));
        }
        for (int bad : new int[] {-1, 62, 64, LEAST, GREATEST}) {
            refuses("from " + bad, ARGUMENT, () -> mill.copy(0, bad, 0, 3, -1));
            refuses("to " + bad, ARGUMENT, () -> mill.copy(0, 0, bad, 3, -1));
        }
        due("launches", mill.launches(), 0);
        due("from 61 to 61", mill.copy(0, 61, 61, 3, -1), 0);
    }

    private static void queues() {
        LaneMill mill = new LaneMill();
        kernel(mill, 1, 0, "k 0 1", "k 0 1", "k 0 1");
        mill.launch(0, 0, 1, 1, -1);
        mill.launch(0, 0, 1, 1, -1);
        mill.launch(1, 0, 1, 1, -1);
        due("queued", states(mill), "qqq");
        due("two at once", mill.step(1), 2);
        due("one behind", states(mill), "rqr");
        mill.step(2);
        due("done", states(mill), "dqd");
        due("groups", mill.groups(0) + mill.groups(1), 0);
        mill.step(1);
        due("the next", states(mill), "drd");
        due("run", mill.run(500), 2);
        due("all done", states(mill), "ddd");
        due("cycle", mill.cycle(), 6);
    }

    private static void cancelled() {
        LaneMill mill = new LaneMill();
        kernel(mill, 1, 0, "k 0 64", "r 0 0");
        kernel(mill, 1, 0, "k 0 64");
        mill.launch(0, 0, 1, 1, -1);
        mill.launch(0, 1, 1, 1, -1);
        mill.copy(0, 0, 1, 1, -1);
        mill.launch(1, 1, 1, 1, 0);
        mill.launch(1, 1, 1, 1, -1);
        mill.step(2);
        due("failed", states(mill), "fqqqq");
        mill.step(1);
        due("behind and after", states(mill), "fxxxx");
        mill.launch(0, 1, 1, 1, -1);
        mill.launch(1, 1, 1, 1, 2);
        mill.launch(1, 1, 1, 1, -1);
        due("run", mill.run(9), 1);
        due("one ahead was over", states(mill), "fxxxxdxx");
        mill.launch(0, 1, 1, 1, 0);
        mill.run(9);
        due("after one that failed", mill.state(8), 'x');
        mill.launch(0, 1, 1, 1, 5);
        mill.run(9);
        due("after one that is done", mill.state(9), 'd');
    }

    private static void afterAnother() {
        LaneMill mill = new LaneMill();
        kernel(mill, 1, 0, "k 0 1", "k 0 1");
        mill.launch(0, 0, 1, 1, -1);
        mill.copy(1, 0, 1, 1, 0);
        mill.launch(1, 0, 1, 1, -1);
        mill.step(1);
        due("waits", states(mill), "rqq");
        mill.step(1);
        due("waits for its end", states(mill), "dqq");
        mill.step(1);
        due("goes on", states(mill), "ddq");
        mill.step(1);
        due("the next", states(mill), "ddr");
        // The queue 0 is gone through first: what is cancelled in the queue 1 reaches it a cycle later.
        LaneMill late = new LaneMill();
        kernel(late, 1, 0, "k 0 -1", "r 0 0");
        late.launch(1, 0, 1, 1, -1);
        late.copy(1, 0, 1, 1, -1);
        late.copy(0, 0, 1, 1, 1);
        late.step(3);
        due("not yet", states(late), "fxq");
        late.step(1);
        due("a cycle later", states(late), "fxx");
    }

    private static void givenBlocks() {
        LaneMill mill = launched(6, 16, 1, 0, "k 0 1");
        due("none", mill.given(0), 0);
        mill.step(1);
        due("two", mill.given(0), 2);
        due("units", "" + mill.groups(0) + mill.groups(1), "44");
        due("running", mill.state(0), 'r');
        mill.step(3);
        due("two still", mill.given(0), 2);
        due("gone", mill.groups(0) + mill.groups(1), 0);
        mill.step(1);
        due("four", mill.given(0), 4);
        due("run", mill.run(100), 7);
        due("six", mill.given(0), 6);
        due("done", mill.state(0), 'd');
        // A launch whose block does not fit lets others through.
        LaneMill through = new LaneMill();
        kernel(through, 1, 0, "j 0");
        through.launch(0, 0, 3, 12, -1);
        through.launch(1, 0, 3, 4, -1);
        through.step(1);
        due("given", "" + through.given(0) + through.given(1), "22");
        due("threads", "" + through.threadAt(0, 3) + " " + through.threadAt(1, 3), "1000 1100");
    }

    private static void emptyKernel() {
        LaneMill mill = new LaneMill();
        mill.addKernel(1, 0);
        mill.launch(0, 0, 6, 16, -1);
        mill.launch(0, 0, 1, 1, -1);
        due("step", mill.step(1), 0);
        due("done at once", states(mill), "dq");
        due("given", mill.given(0), 6);
        due("groups", mill.groups(0) + mill.groups(1), 0);
        due("run", mill.run(500), 1);
        due("done", states(mill), "dd");
        refuses("usedShare", ARITHMETIC, mill::usedShare);
    }

    private static void stepAndRun() {
        LaneMill mill = launched(1, 1, 1, 0, "k 0 1", "j 0");
        for (int bad : new int[] {0, 101, -1, LEAST, GREATEST}) {
            refuses("step " + bad, ARGUMENT, () -> mill.step(bad));
        }
        for (int bad : new int[] {0, 501, -1, LEAST, GREATEST}) {
            refuses("run " + bad, ARGUMENT, () -> mill.run(bad));
        }
        due("cycle", mill.cycle(), 0);
        due("step 100", mill.step(100), 100);
        due("step 1", mill.step(1), 1);
        due("run 500", mill.run(500), 500);
        due("run 1", mill.run(1), 1);
        due("cycle", mill.cycle(), 602);
        LaneMill failing = launched(1, 1, 1, 0, "k 0 64", "r 0 0", "k 0 1");
        due("a fault counts", failing.step(5), 2);
        due("run, all over", failing.run(500), 0);
        due("cycle", failing.cycle(), 5);
        due("none", new LaneMill().run(500), 0);
        due("step without launches", new LaneMill().step(7), 0);
    }

    private static void orders() {
        for (char order : new char[] {'o', 'y', 'a'}) {
            LaneMill mill = launched(1, 12, 1, 0, "k 0 1", "k 0 2", "k 0 3", "j 3");
            due("order", mill.setOrder(order), 'o');
            due("order again", mill.setOrder(order), order);
            mill.step(4);
            String places = "" + mill.place(0, 0) + mill.place(0, 1) + mill.place(0, 2);
            due("places by " + order, places, order == 'o' ? "300" : order == 'y' ? "003" : "211");
        }
        LaneMill mill = new LaneMill();
        for (char bad : new char[] {'q', 'O', 0, 'e', (char) 65535}) {
            refuses("order " + (int) bad, ARGUMENT, () -> mill.setOrder(bad));
        }
        due("unchanged", mill.setOrder('a'), 'o');
    }

    private static void orderAround() {
        // The group that came last has carried out the last instruction, and its launch leaves.
        LaneMill mill = new LaneMill();
        kernel(mill, 1, 0, "k 0 1", "k 0 1", "k 0 1", "k 0 1", "j 4");
        kernel(mill, 1, 0, "k 0 1");
        mill.launch(0, 0, 1, 12, -1);
        mill.launch(1, 1, 2, 4, -1);
        mill.setOrder('o');
        mill.step(2);
        due("of unit 1", mill.groups(1), 0);
        due("places", "" + mill.place(0, 0) + mill.place(0, 1) + mill.place(0, 2), "200");
        mill.setOrder('a');
        mill.step(2);
        due("behind the first", "" + mill.place(0, 0) + mill.place(0, 1) + mill.place(0, 2), "211");
        mill.step(1);
        due("around", "" + mill.place(0, 0) + mill.place(0, 1) + mill.place(0, 2), "311");
        // Behind a group that has left comes the first one.
        LaneMill left = new LaneMill();
        kernel(left, 1, 0, "k 0 1", "k 0 1", "k 0 1", "k 0 1", "j 4");
        kernel(left, 1, 0, "k 0 1", "k 0 1");
        left.launch(0, 0, 4, 4, -1);
        left.launch(1, 1, 2, 4, -1);
        left.setOrder('y');
        left.step(2);
        due("two are left", "" + left.groups(0) + left.groups(1), "22");
        due("places", "" + left.place(0, 0) + left.place(0, 1), "00");
        left.setOrder('a');
        left.step(1);
        due("the first", "" + left.place(0, 0) + left.place(0, 1), "10");
        left.step(1);
        due("the second", "" + left.place(0, 0) + left.place(0, 1), "11");
        // One whose delay is not over is left out.
        LaneMill slow = launched(1, 8, 1, 0, "* 0 0 0", "* 0 0 0", "* 0 0 0", "j 3");
        due("all cycles are used", slow.step(4), 4);
        due("places", "" + slow.place(0, 0) + slow.place(0, 1), "22");
    }

    // ---- promises 17 to 25

    private static void groupsInUnits() {
        LaneMill mill = launched(3, 6, 1, 0, "j 0");
        for (int bad : new int[] {-1, 2, LEAST, GREATEST}) {
            refuses("groups " + bad, INDEX, () -> mill.groups(bad));
            unitRefused(mill, bad, 0);
        }
        unitRefused(mill, 0, 0);
        mill.step(1);
        due("groups", "" + mill.groups(0) + mill.groups(1), "42");
        due("threadAt", "" + mill.threadAt(0, 0) + " " + mill.threadAt(0, 1) + " " + mill.threadAt(0, 2)
            + " " + mill.threadAt(0, 3) + " " + mill.threadAt(1, 0) + " " + mill.threadAt(1, 1),
            "0 4 200 204 100 104");
        for (int bad : new int[] {-1, 4, LEAST, GREATEST}) {
            unitRefused(mill, 0, bad);
        }
        unitRefused(mill, 1, 2);
    }

    private static void unitRefused(LaneMill mill, int unit, int group) {
        refuses("threadAt", INDEX, () -> mill.threadAt(unit, group));
        refuses("place", INDEX, () -> mill.place(unit, group));
        refuses("mask", INDEX, () -> mill.mask(unit, group));
        refuses("places", INDEX, () -> mill.places(unit, group));
        refuses("reason", INDEX, () -> mill.reason(unit, group));
        refuses("register", INDEX, () -> mill.register(unit, group, 0, 0));
        refuses("shared", INDEX, () -> mill.shared(unit, group, 0));
        refuses("buffered", INDEX, () -> mill.buffered(unit, group));
    }

    private static void room() {
        LaneMill registers = launched(6, 4, 8, 0, "j 0");
        registers.step(1);
        due("registers", "" + registers.groups(0) + registers.groups(1), "22");
        LaneMill shared = launched(6, 1, 1, 16, "j 0");
        shared.step(1);
        due("shared", "" + shared.groups(0) + shared.groups(1), "22");
        LaneMill most = launched(6, 1, 8, 8, "j 0");
        most.step(1);
        due("groups", "" + most.groups(0) + most.groups(1), "33");
        // With fewer groups, or in the unit 0, or where there is room.
        LaneMill mixed = new LaneMill();
        kernel(mixed, 8, 0, "j 0");
        kernel(mixed, 1, 0, "j 0");
        mixed.launch(0, 0, 1, 8, -1);
        mixed.launch(1, 1, 4, 4, -1);
        mixed.step(1);
        due("the first is full of registers", "" + mixed.groups(0) + mixed.groups(1), "24");
        due("where", mixed.threadAt(1, 0) + " " + mixed.threadAt(1, 3), "1000 1300");
        // Room is free as soon as a block has ended.
        LaneMill next = launched(3, 16, 4, 0, "k 0 1");
        next.step(4);
        due("gone", next.groups(0), 0);
        next.step(1);
        due("the next is in the unit 0", next.threadAt(0, 0), 200);
        due("isSound", next.isSound(), true);
    }

    private static void masksAndPlaces() {
        LaneMill mill = launched(1, 4, 3, 0, "l 0", "k 1 2", "< 2 0 1", "z 2 6", "k 1 5", "j 8", "k 1 9", "k 1 10",
            "j 8");
        mill.step(3);
        due("one place", "" + mill.place(0, 0) + mill.mask(0, 0) + mill.places(0, 0), "3151");
        mill.step(1);
        due("two places", "" + mill.place(0, 0) + " " + mill.mask(0, 0) + " " + mill.places(0, 0), "4 3 2");
        mill.step(1);
        due("the lower one goes on", mill.place(0, 0) + " " + mill.mask(0, 0), "5 3");
        mill.step(1);
        due("the other one", mill.place(0, 0) + " " + mill.mask(0, 0) + " " + mill.places(0, 0), "6 12 2");
        mill.step(2);
        due("together", mill.place(0, 0) + " " + mill.mask(0, 0) + " " + mill.places(0, 0), "8 15 1");
        due("registers", registers(mill, 1, 4), "5 5 10 10");
        LaneMill part = launched(1, 7, 1, 0, "j 0");
        part.step(1);
        due("part of a group", part.mask(0, 0) + " " + part.mask(0, 1), "15 7");
    }

    private static void reasons() {
        // The group 0 waits for the group 1, which multiplies first.
        LaneMill mill = launched(1, 5, 2, 0, "t 0", "k 1 4", "< 0 0 1", "z 0 5", "b", "e", "b");
        mill.step(4);
        due("can", "" + mill.reason(0, 0) + mill.reason(0, 1), "--");
        mill.step(1);
        due("waits", "" + mill.reason(0, 0) + mill.reason(0, 1), "b-");
        due("of a waiting group", mill.mask(0, 0) + " " + mill.places(0, 0), "0 0");
        refuses("place", NO_ELEMENT, () -> mill.place(0, 0));
        mill.step(4);
        due("at the end", mill.place(0, 1), 5);
        mill.step(1);
        due("the last one passes", "" + mill.barriers() + mill.reason(0, 0), "1-");
        due("it has ended", mill.reason(0, 1), 'e');
        refuses("place of ended", NO_ELEMENT, () -> mill.place(0, 1));
        due("mask of ended", mill.mask(0, 1) + mill.places(0, 1), 0);
        LaneMill slow = launched(1, 1, 1, 0, "* 0 0 0", "j 1");
        slow.step(1);
        due("delay", slow.reason(0, 0), 'd');
        slow.step(1);
        due("delay is over", slow.reason(0, 0), '-');
        // A delay that goes on is not told while all wait.
        LaneMill both = launched(1, 8, 1, 0, "b", "* 0 0 0", "j 2");
        both.step(1);
        due("barrier first", both.reason(0, 0), 'b');
    }

    private static void registersAndShared() {
        LaneMill mill = launched(2, 6, 2, 3, "t 0", "k 1 2", "W 1 0", "j 3");
        mill.step(10);
        due("registers", "" + mill.register(0, 0, 0, 0) + mill.register(0, 0, 3, 0)
            + mill.register(0, 1, 0, 0) + mill.register(0, 1, 1, 0) + mill.register(1, 0, 1, 1), "03002");
        mill.setOrder('y');
        mill.step(20);
        due("of the other group", "" + mill.register(0, 1, 0, 0) + mill.register(0, 1, 1, 0), "45");
        due("shared", "" + mill.shared(0, 0, 2) + mill.shared(0, 1, 2) + mill.shared(0, 0, 0), "550");
        for (int bad : new int[] {2, 3, 4, -1, LEAST, GREATEST}) {
            refuses("lane " + bad, INDEX, () -> mill.register(0, 1, bad, 0));
        }
        refuses("lane 4", INDEX, () -> mill.register(0, 0, 4, 0));
        for (int bad : new int[] {2, 8, -1, LEAST, GREATEST}) {
            refuses("register " + bad, INDEX, () -> mill.register(0, 0, 0, bad));
        }
        for (int bad : new int[] {3, 16, -1, LEAST, GREATEST}) {
            refuses("shared " + bad, INDEX, () -> mill.shared(0, 0, bad));
        }
        LaneMill none = launched(1, 1, 1, 0, "j 0");
        none.step(1);
        refuses("no shared cell", INDEX, () -> none.shared(0, 0, 0));
        // Shared cells of a block are 0 at first, also where another block has been.
        LaneMill again = launched(3, 16, 1, 1, "k 0 0", "R 0 0", "z 0 5", "k 0 30", "w 0 0", "k 0 0", "W 0 0", "b");
        again.run(500);
        due("cell 30", again.peek(30), 0);
    }

    // ---- instructions

    private static void reckoning() {
        LaneMill mill = launched(2, 6, 8, 0, "k 0 7", "k 1 -3", "+ 2 0 1", "- 3 0 1", "* 4 0 1", "< 5 1 0", "< 6 0 1",
            "= 7 0 0", "j 8");
        mill.step(11);
        due("unit 0", registers(mill, 2, 1) + " " + registers(mill, 3, 1) + " " + registers(mill, 4, 1) + " "
            + registers(mill, 5, 1) + " " + registers(mill, 6, 1) + " " + registers(mill, 7, 1), "4 10 -21 1 0 1");
        LaneMill wrap = launched(1, 1, 6, 0, "k 0 2147483647", "k 1 1", "+ 2 0 1", "- 3 2 1", "* 4 0 0", "< 5 2 0",
            "= 1 0 2", "< 0 0 0", "j 8");
        wrap.step(12);
        due("wrapped", registers(wrap, 2, 1) + " " + registers(wrap, 3, 1) + " " + registers(wrap, 4, 1) + " "
            + registers(wrap, 5, 1) + " " + registers(wrap, 1, 1) + " " + registers(wrap, 0, 1),
            LEAST + " " + GREATEST + " 1 1 0 0");
        LaneMill numbers = launched(2, 6, 3, 0, "t 0", "n 1", "l 2", "j 3");
        numbers.setOrder('a');
        numbers.step(10);
        due("t", registers(numbers, 0, 4) + " " + numbers.register(0, 1, 0, 0) + " " + numbers.register(0, 1, 1, 0),
            "0 1 2 3 4 5");
        due("n", "" + numbers.register(0, 0, 0, 1) + numbers.register(1, 1, 1, 1), "01");
        due("l", registers(numbers, 2, 4) + " " + numbers.register(0, 1, 0, 2) + " " + numbers.register(0, 1, 1, 2),
            "0 1 2 3 0 1");
        LaneMill jumps = launched(1, 1, 2, 0, "z 0 3", "k 1 9", "e", "k 0 5", "z 0 1", "j 7", "k 1 8", "j 7");
        jumps.step(4);
        due("j and z", jumps.place(0, 0) + " " + registers(jumps, 1, 1), "7 0");
        LaneMill ends = launched(1, 1, 1, 0, "j 39");
        due("no such place", ends.run(9), 1);
        due("ends", ends.state(0), 'd');
        LaneMill atOnce = launched(1, 4, 1, 0, "z 0 5", "k 0 1");
        due("z to none", atOnce.run(9), 1);
    }

    private static void votesAndShuffles() {
        LaneMill mill = launched(1, 4, 3, 0, "l 0", "v 0 0", "j 2");
        mill.step(2);
        due("v", registers(mill, 0, 4), "14 14 14 14");
        LaneMill turn = launched(1, 4, 3, 0, "l 0", "k 2 1", "+ 1 0 2", "s 0 0 1", "j 4");
        turn.step(4);
        due("s", registers(turn, 0, 4), "1 2 3 0");
        LaneMill negative = launched(1, 4, 3, 0, "l 0", "k 1 -2147483645", "s 2 0 1", "j 3");
        negative.step(3);
        due("s of a number less than 0", registers(negative, 2, 4), "3 3 3 3");
        LaneMill few = launched(1, 2, 3, 0, "l 0", "k 1 -1", "s 2 0 1", "v 1 1", "j 4");
        few.step(4);
        due("s of no lane", registers(few, 2, 2), "0 1");
        due("v of two lanes", registers(few, 1, 2), "3 3");
        // Lanes at other places are not under the mask: lane 0 goes to 4, the others to 2.
        LaneMill apart = launched(1, 4, 3, 0, "l 0", "z 0 4", "v 1 0", "s 2 0 1", "j 4");
        apart.step(4);
        due("v under the mask", registers(apart, 1, 4), "0 14 14 14");
        due("s under the mask", registers(apart, 2, 4), "0 2 2 2");
        LaneMill other = launched(1, 4, 3, 0, "l 0", "k 1 7", "z 0 4", "v 2 1", "j 4");
        other.step(4);
        due("v of a lane at another place", registers(other, 2, 4), "0 14 14 14");
        LaneMill own = launched(1, 4, 3, 0, "l 0", "z 0 4", "k 1 4", "s 2 0 1", "j 4");
        own.step(4);
        due("the own lane", registers(own, 2, 4), "0 1 2 3");
    }

    private static void exchanges() {
        LaneMill add = launched(1, 4, 3, 0, "k 0 5", "l 1", "a 2 0 1", "j 3");
        add.poke(5, 10);
        add.step(3);
        due("a", registers(add, 2, 4) + " / " + add.peek(5), "10 10 11 13 / 16");
        LaneMill exchange = launched(1, 4, 3, 0, "k 0 5", "l 1", "x 2 0 1", "j 3");
        exchange.poke(5, 10);
        exchange.step(3);
        due("x", registers(exchange, 2, 4) + " / " + exchange.peek(5), "10 0 1 2 / 3");
        LaneMill same = launched(1, 4, 2, 0, "k 0 5", "l 1", "a 1 0 1", "j 3");
        same.poke(5, 10);
        same.step(3);
        due("a, a is c", registers(same, 1, 4) + " / " + same.peek(5), "10 10 11 13 / 16");
        LaneMill one = launched(1, 4, 1, 0, "l 0", "x 0 0 0", "j 2");
        one.poke(3, 7);
        one.step(2);
        due("x, all one", registers(one, 0, 4) + " / " + cells(one, 0, 3), "0 0 0 7 / 0 1 2 3");
        // Writes of the buffer come first.
        LaneMill flush = launched(1, 1, 3, 0, "k 0 5", "k 1 8", "f", "w 0 1", "a 2 0 1", "j 5");
        flush.step(4);
        due("in the buffer", flush.peek(5), 0);
        flush.step(3);
        due("a behind w", registers(flush, 2, 1) + " " + flush.peek(5) + " " + flush.buffered(0, 0), "8 16 0");
        // Also when the first lane has a fault.
        LaneMill fault = launched(1, 1, 3, 0, "k 0 5", "k 1 -1", "f", "w 0 0", "a 2 1 0");
        fault.run(20);
        due("a fault", fault.fault(0) + " " + fault.peek(5), "g 5");
    }

    private static void reads() {
        LaneMill mill = launched(1, 2, 2, 0, "k 0 5", "r 1 0", "j 2");
        mill.poke(5, 77);
        mill.step(2);
        due("r", registers(mill, 1, 2), "77 77");
        // The last write in the buffer to the cell, of any lane of the group.
        LaneMill own = launched(1, 3, 3, 0, "l 0", "k 1 9", "w 1 0", "r 2 1", "j 4");
        own.step(4);
        due("of the buffer", registers(own, 2, 3), "2 2 2");
        due("in the memory", own.peek(9), 0);
        due("buffered", own.buffered(0, 0), 2);
        // A buffer of another group is not seen.
        LaneMill other = launched(1, 5, 3, 0, "t 0", "k 1 9", "w 1 0", "r 2 1", "j 4");
        other.setOrder('y');
        other.step(2);
        other.step(2);
        due("written by the last one", other.register(0, 1, 0, 2), 4);
    }

    // ---- buffers

    private static void buffers() {
        LaneMill mill = launched(1, 4, 2, 0, "t 0", "w 0 0", "w 0 0", "j 3");
        mill.poke(0, 9);
        mill.step(2);
        due("four", mill.buffered(0, 0) + " / " + cells(mill, 0, 3), "4 / 9 0 0 0");
        // The second 'w' writes all four ahead of its own, and the cycle 2 one more.
        mill.step(1);
        due("three", mill.buffered(0, 0) + " / " + cells(mill, 0, 3), "3 / 0 1 2 3");
        mill.step(2);
        due("three still", mill.buffered(0, 0), 3);
        mill.step(1);
        due("two", mill.buffered(0, 0), 2);
        LaneMill fence = launched(1, 4, 1, 0, "t 0", "w 0 0", "f", "j 3");
        fence.step(3);
        due("fence", fence.buffered(0, 0) + " / " + cells(fence, 0, 3), "0 / 0 1 2 3");
        LaneMill order = launched(1, 2, 2, 0, "l 0", "k 1 9", "f", "w 1 0", "f", "j 5");
        order.step(5);
        due("in their order", order.peek(9), 1);
        LaneMill barrier = launched(1, 8, 1, 0, "t 0", "w 0 0", "b", "j 3");
        barrier.step(3);
        due("barrier", barrier.buffered(0, 0) + " / " + cells(barrier, 0, 3), "0 / 0 1 2 3");
    }

    private static void bufferWrittenAtEnds() {
        LaneMill mill = launched(1, 4, 1, 0, "t 0", "w 0 0", "e");
        due("run", mill.run(9), 3);
        due("at 'e'", cells(mill, 0, 3), "0 1 2 3");
        LaneMill last = launched(1, 4, 1, 0, "t 0", "w 0 0");
        due("run", last.run(9), 2);
        due("behind the last instruction", cells(last, 0, 3), "0 1 2 3");
        // The group 0 ends, and its block goes on.
        LaneMill other = launched(1, 5, 2, 0, "t 0", "w 0 0", "k 1 4", "< 1 0 1", "z 1 6", "e", "j 6");
        other.step(6);
        due("ended", other.reason(0, 0) + " / " + cells(other, 0, 3), "e / 0 1 2 3");
        due("room of the block is kept", other.groups(0), 2);
        // Writes of a launch that fails are lost.
        LaneMill lost = launched(1, 4, 2, 0, "t 0", "k 1 -1", "f", "w 0 0", "r 1 1");
        lost.run(20);
        due("lost", lost.state(0) + " / " + cells(lost, 0, 3), "f / 0 0 0 0");
        // One thread of the group ends, another one goes on: nothing is written.
        LaneMill part = launched(1, 2, 1, 0, "l 0", "f", "f", "w 0 0", "z 0 6", "j 5");
        part.poke(0, 9);
        part.step(5);
        due("one is left", part.mask(0, 0) + " " + part.buffered(0, 0) + " " + part.peek(0), "2 2 9");
    }

    private static void trickle() {
        // Both blocks write cell 9 in the cycle 2: the unit 0 comes first.
        LaneMill mill = launched(2, 1, 2, 0, "n 0", "k 1 9", "w 1 0", "j 3");
        mill.poke(9, 5);
        mill.step(2);
        due("not yet", mill.peek(9), 5);
        mill.step(1);
        due("the unit 1 is last", mill.peek(9), 1);
        due("buffers", mill.buffered(0, 0) + mill.buffered(1, 0), 0);
        // One write a buffer, at the ends of the cycles 2, 5, 8.
        LaneMill slow = launched(1, 4, 1, 0, "t 0", "w 0 0", "j 2");
        StringBuilder counts = new StringBuilder();
        for (int i = 0; i < 12; i++) {
            slow.step(1);
            counts.append(slow.buffered(0, 0));
        }
        due("counts", counts.toString(), "043332221110");
        // In a unit in the order in which groups came.
        LaneMill order = launched(1, 8, 3, 0, "t 0", "k 1 9", "f", "w 1 0", "j 4");
        order.setOrder('a');
        order.step(12);
        due("the group 1 is last", order.buffered(0, 0) + order.buffered(0, 1), 4);
        due("the second round", order.peek(9), 5);
    }

    // ---- delays

    private static void delays() {
        LaneMill mill = launched(1, 4, 2, 1, "k 0 5", "+ 0 0 0", "- 0 0 0", "* 0 0 0", "< 0 0 0", "= 0 0 0", "t 0",
            "n 0", "l 0", "v 1 0", "s 1 0 0", "z 0 12", "a 1 1 1", "x 1 1 1", "j 15", "b", "f", "k 0 0", "c 1 3 1",
            "j 19");
        StringBuilder delays = new StringBuilder();
        for (int i = 0; i < 20; i++) {
            delays.append(i == 0 ? "" : " ").append(delay(mill));
        }
        // 'z' lets the lanes 1 to 3 go from 12 on, with the lane 0, which comes there as well.
        due("delays", delays.toString(), "1 1 1 2 1 1 1 1 1 1 1 1 8 8 1 1 1 1 16 1");
        LaneMill lone = launched(1, 1, 1, 0, "a 0 0 0", "x 0 0 0", "c 0 3 0", "j 3");
        due("of one lane", delay(lone) + " " + delay(lone) + " " + delay(lone), "2 2 4");
    }

    private static void readDelays() {
        // Lines 0 to 3 by lanes: four lines, all missing; the unit keeps 2 and 3.
        LaneMill mill = launched(1, 4, 4, 0, "l 0", "k 1 8", "* 2 0 1", "r 3 2", "r 3 2", "r 3 0", "r 3 0", "j 7");
        mill.step(2);
        due("*", delay(mill), 2);
        due("four lines", delay(mill), 24);
        due("misses", mill.misses(), 4);
        due("again: 0 and 1 are missing, and then 2 and 3", delay(mill), 24);
        due("misses", mill.misses(), 8);
        due("line 0 alone", delay(mill), 6);
        due("misses", mill.misses(), 9);
        due("line 0 again", delay(mill), 2);
        due("misses", mill.misses(), 9);
        // An even and an odd line stay beside each other.
        LaneMill both = launched(1, 2, 4, 0, "l 0", "k 1 8", "* 2 0 1", "r 3 2", "r 3 2", "j 5");
        both.step(2);
        due("*", delay(both), 2);
        due("two lines", delay(both) + " " + delay(both) + " " + both.misses(), "12 4 2");
        // A line that buffers tell is looked at as well.
        LaneMill buffer = launched(1, 1, 2, 0, "w 0 0", "r 1 0", "r 1 0", "j 3");
        buffer.step(1);
        due("buffered", delay(buffer) + " " + delay(buffer), "6 2");
        // 'a' does not name lines; units have lines of their own.
        LaneMill units = launched(2, 1, 2, 0, "a 1 0 1", "r 1 0", "j 2");
        units.step(9);
        due("misses of two units", units.misses(), 2);
        // For an instruction with a fault, no line is looked at.
        LaneMill fault = launched(1, 2, 3, 0, "l 0", "k 1 64", "* 2 0 1", "r 1 2");
        fault.run(20);
        due("fault", "" + fault.fault(0) + fault.misses(), "g0");
        LaneMill later = new LaneMill();
        kernel(later, 2, 0, "l 0", "k 1 64", "* 0 0 1", "r 1 0");
        kernel(later, 2, 0, "r 1 0", "j 1");
        later.launch(0, 0, 1, 2, -1);
        later.launch(1, 1, 1, 1, 0);
        later.poke(0, 3);
        later.run(9);
        later.step(3);
        due("no launch after one that failed", states(later), "fx");
        later.launch(0, 1, 1, 1, -1);
        due("the line is missing still", delay(later), 6);
    }

    private static void bankDelays() {
        LaneMill mill = launched(1, 4, 4, 16, "l 0", "k 1 4", "* 2 0 1", "R 3 2", "W 2 3", "R 3 0", "W 0 3", "R 3 1",
            "W 1 3", "k 1 2", "* 2 0 1", "R 3 2", "j 12");
        mill.step(2);
        due("*", delay(mill), 2);
        due("cells 0 4 8 12", delay(mill) + " " + delay(mill), "4 4");
        due("lost", mill.lost(), 6);
        due("cells 0 1 2 3", delay(mill) + " " + delay(mill), "1 1");
        due("the same cell", delay(mill) + " " + delay(mill), "1 1");
        due("lost", mill.lost(), 6);
        mill.step(1);
        due("*", delay(mill), 2);
        due("cells 0 2 4 6", delay(mill), 2);
        due("lost", mill.lost(), 7);
    }

    private static void writeDelays() {
        LaneMill mill = launched(1, 4, 1, 0, "t 0", "w 0 0", "w 0 0", "f", "f", "j 5");
        mill.step(1);
        due("room for all", delay(mill), 1);
        due("none for four", delay(mill), 5);
        // In the cycles 2 and 5 one write each leaves the buffer: two are left in the cycle 7.
        due("fence", delay(mill), 3);
        due("fence of none", delay(mill), 1);
        LaneMill part = launched(1, 3, 1, 0, "t 0", "w 0 0", "w 0 0", "j 3");
        part.step(1);
        due("room for all", delay(part), 1);
        due("none for two", delay(part), 3);
    }

    // ---- barriers

    private static void barriers() {
        LaneMill mill = launched(1, 8, 2, 8, "t 0", "W 0 0", "b", "k 1 7", "- 0 1 0", "R 0 0", "j 6");
        mill.run(30);
        due("barriers", mill.barriers(), 1);
        due("registers", registers(mill, 0, 4), "7 6 5 4");
        due("races", racingCells(mill, 0), "/0");
        // Threads that have ended are not waited for, and one that ends last lets others pass.
        LaneMill ended = launched(1, 5, 2, 0, "t 0", "k 1 4", "= 1 0 1", "z 1 5", "e", "b", "k 0 9", "w 0 0");
        due("run", ended.run(99), 12);
        due("passed", ended.barriers() + " " + ended.peek(9), "1 9");
        // A barrier may be the last instruction.
        LaneMill last = launched(1, 8, 1, 0, "b");
        due("run", last.run(9), 2);
        due("done", last.state(0) + " " + last.barriers(), "d 1");
        LaneMill blocks = launched(3, 1, 1, 0, "b", "b");
        blocks.run(99);
        due("of each block", blocks.barriers(), 6);
        // Writes of lanes that wait are written at the end of a group that ends at a barrier.
        LaneMill write = launched(1, 2, 1, 0, "l 0", "z 0 5", "f", "w 0 0", "e", "b");
        write.run(99);
        due("written", write.peek(1) + " " + write.state(0), "1 d");
    }

    private static void barrierFaults() {
        LaneMill mill = launched(2, 6, 2, 0, "t 0", "k 1 2", "< 1 0 1", "z 1 6", "b", "e", "b", "e");
        mill.run(99);
        due("state", mill.state(0), 'f');
        due("fault", mill.fault(0), 'b');
        due("the lowest thread", mill.faultAt(0), 4);
        due("none passed", mill.barriers(), 0);
        // Two kinds of waiting threads, where the lowest has ended.
        LaneMill other = launched(2, 4, 2, 0, "n 0", "z 0 14", "l 0", "z 0 13", "k 1 1", "= 1 0 1", "z 1 10", "b", "e", "e",
            "b", "e", "e", "e", "j 14");
        other.run(50);
        due("fault at", other.state(0) + " " + other.faultAt(0), "f 10107");
        due("groups have left", other.groups(0) + other.groups(1), 0);
        // The instruction itself counts as one without a fault.
        LaneMill counted = launched(1, 2, 1, 0, "l 0", "z 0 3", "b", "b");
        counted.run(9);
        due("fault", counted.fault(0) + " " + counted.faultAt(0), "b 3");
        due("delays", counted.meanDelay(), 1.0);
        due("lanes", counted.lanes(), 6L);
        // A group that ends writes ahead of the fault that this brings about.
        LaneMill write = launched(1, 6, 2, 0, "t 0", "k 1 4", "< 1 0 1", "z 1 8", "l 1", "z 1 7", "b", "b",
            "f", "w 0 0", "e");
        write.run(99);
        due("fault", write.state(0) + " " + write.faultAt(0), "f 7");
        due("written", write.peek(4) + " " + write.peek(5), "4 5");
    }

    // ---- faults

    private static void faults() {
        for (String letter : new String[] {"r 1 0", "w 0 1", "a 1 0 1", "x 1 0 1"}) {
            for (int cell : new int[] {64, -1, LEAST, GREATEST}) {
                LaneMill mill = launched(1, 1, 2, 0, "k 0 " + cell, letter);
                due("run", mill.run(9), 2);
                due(letter + " at " + cell, mill.fault(0) + " " + mill.faultAt(0), "g 1");
            }
            for (int cell : new int[] {63, 0}) {
                LaneMill mill = launched(1, 1, 2, 0, "k 0 " + cell, letter);
                mill.run(9);
                due(letter + " at " + cell, mill.state(0), 'd');
                refuses("fault", NO_ELEMENT, () -> mill.fault(0));
                refuses("faultAt", NO_ELEMENT, () -> mill.faultAt(0));
            }
        }
        for (String letter : new String[] {"R 1 0", "W 0 1"}) {
            for (int cell : new int[] {3, -1, LEAST, GREATEST, 2, 0}) {
                LaneMill mill = launched(1, 1, 2, 3, "k 0 " + cell, letter);
                mill.run(9);
                boolean isCell = cell == 2 || cell == 0;
                due(letter + " at " + cell, mill.state(0), isCell ? 'd' : 'f');
                if (!isCell) {
                    due(letter + " at " + cell, mill.fault(0) + " " + mill.faultAt(0), "s 1");
                }
            }
            LaneMill none = launched(1, 1, 2, 0, "R 0 0");
            none.run(9);
            due("no shared cells", none.fault(0) + " " + none.faultAt(0), "s 0");
        }
    }

    private static void faultEdges() {
        // Lower lanes have done it: the lanes 0 and 1 of 'a' change the memory, the lane 2 is at fault.
        LaneMill mill = launched(2, 6, 3, 0, "t 0", "k 1 62", "+ 0 0 1", "k 2 7", "a 2 0 2", "k 2 1");
        mill.run(99);
        due("state", mill.state(0) + " " + mill.fault(0) + " " + mill.faultAt(0), "f g 204");
        due("cells", cells(mill, 62, 63), "7 7");
        due("groups have left", mill.groups(0) + mill.groups(1), 0);
        due("lanes", mill.lanes(), 4L * 4 + 2 + 4 * 4);
        due("instructions", mill.usedShare(), (float) 34 / (float) 36);
        // No more blocks are given; other launches go on.
        LaneMill rest = new LaneMill();
        kernel(rest, 1, 0, "k 0 64", "r 0 0");
        kernel(rest, 1, 0, "j 0");
        rest.launch(0, 0, 6, 16, -1);
        rest.launch(1, 1, 1, 1, -1);
        rest.step(9);
        due("given", rest.given(0) + " " + states(rest), "2 fr");
        due("the other one", rest.threadAt(0, 0), 1000);
        // The write that a full buffer made room for stays.
        LaneMill full = launched(1, 4, 3, 0, "t 0", "k 1 61", "w 0 1", "+ 1 0 1", "w 1 1");
        full.step(4);
        due("three are left", full.buffered(0, 0) + " " + full.peek(0), "3 61");
        full.run(9);
        due("fault", full.fault(0) + " " + full.faultAt(0), "g 304");
        due("cells", cells(full, 0, 3) + " " + cells(full, 61, 63), "61 61 61 0 0 0 0");
        // The fault of the block 1 is told, of a thread in the second group.
        LaneMill second = launched(2, 8, 3, 0, "n 0", "z 0 7", "t 0", "k 1 6", "= 1 0 1", "z 1 7", "R 0 0", "j 7");
        second.setOrder('a');
        second.run(99);
        due("fault at", second.fault(0) + " " + second.faultAt(0), "s 10606");
    }

    // ---- children

    private static void children() {
        LaneMill mill = new LaneMill();
        kernel(mill, 2, 0, "k 0 3", "c 1 1 0", "j 3");
        kernel(mill, 1, 0, "t 0", "j 1");
        mill.launch(0, 0, 1, 1, -1);
        mill.step(1);
        due("launches", mill.launches(), 1);
        mill.step(1);
        due("states", states(mill), "rq");
        due("parent", mill.parent(1), 0);
        refuses("no child", NO_ELEMENT, () -> mill.parent(0));
        due("told", registers(mill, 1, 1), "1");
        due("given", mill.given(1), 0);
        mill.step(1);
        due("states", states(mill), "rr");
        due("one block of three threads", mill.given(1) + " " + mill.mask(1, 0), "1 7");
        // The parent is done when its child is.
        LaneMill ends = new LaneMill();
        kernel(ends, 1, 0, "k 0 1", "c 0 1 0");
        kernel(ends, 1, 0, "k 0 1", "k 0 1", "k 0 1");
        ends.launch(0, 0, 1, 1, -1);
        ends.launch(0, 1, 1, 1, -1);
        ends.step(4);
        due("the block has ended", states(ends), "rqr");
        due("groups", ends.groups(0) + ends.groups(1), 1);
        ends.step(1);
        due("both at once", states(ends), "dqd");
        due("run", ends.run(99), 3);
        // An empty child is done as its block is given.
        LaneMill empty = new LaneMill();
        kernel(empty, 1, 0, "k 0 1", "c 0 1 0");
        empty.addKernel(1, 0);
        empty.launch(0, 0, 1, 1, -1);
        due("run", empty.run(99), 3);
        due("states", states(empty), "dd");
        // Each lane launches one, by rising numbers; threads are told by the register c ahead of it.
        LaneMill lanes = new LaneMill();
        kernel(lanes, 1, 0, "l 0", "c 0 1 0", "j 2");
        kernel(lanes, 1, 0, "j 0");
        lanes.launch(0, 0, 1, 4, -1);
        lanes.step(3);
        due("children", registers(lanes, 0, 4) + " " + lanes.launches() + " " + lanes.refused(), "0 1 1 1 4 1");
        due("masks", lanes.mask(1, 0) + " " + lanes.mask(0, 1) + " " + lanes.mask(1, 1), "1 3 7");
    }

    private static void refusedChildren() {
        for (int threads : new int[] {0, 17, -1, LEAST, GREATEST, 9, 8}) {
            LaneMill mill = new LaneMill();
            kernel(mill, 2, 0, "k 0 " + threads, "k 1 5", "c 1 1 0", "j 3");
            kernel(mill, 8, 0, "e");
            mill.launch(0, 0, 1, 1, -1);
            mill.step(3);
            due("threads " + threads, registers(mill, 1, 1) + mill.refused() + mill.launches(),
                threads == 8 ? "102" : "011");
        }
        LaneMill none = launched(1, 1, 1, 0, "k 0 1", "c 0 1 0", "j 2");
        none.step(2);
        due("no such kernel", registers(none, 0, 1) + none.refused() + none.launches(), "011");
        // Each launch launches the same kernel again: depths 0, 1 and 2, and one more that is refused.
        LaneMill deep = launched(1, 1, 1, 0, "k 0 1", "c 0 0 0");
        due("run", deep.run(99) > 0, true);
        due("depth", deep.launches() + " " + deep.refused() + " " + states(deep), "3 1 ddd");
        due("parents", deep.parent(1) + " " + deep.parent(2), "0 1");
        // At most twelve launches.
        LaneMill many = new LaneMill();
        kernel(many, 1, 0, "k 0 1", "c 0 1 0");
        kernel(many, 1, 0, "e");
        many.launch(0, 0, 1, 16, -1);
        many.run(200);
        due("many", many.launches() + " " + many.refused(), "12 5");
    }

    private static void parentsThatFail() {
        LaneMill mill = new LaneMill();
        kernel(mill, 1, 0, "k 0 1", "c 0 1 0", "r 0 0", "k 0 64", "r 0 0");
        kernel(mill, 1, 0, "j 0");
        mill.launch(0, 0, 1, 1, -1);
        mill.step(30);
        due("the child goes on", states(mill), "fr");
        due("it is in a unit", mill.threadAt(1, 0), 1000);
        // A child that fails lets its parent be done.
        LaneMill child = new LaneMill();
        kernel(child, 1, 0, "k 0 1", "c 0 1 0");
        kernel(child, 1, 0, "k 0 64", "r 0 0");
        child.launch(0, 0, 1, 1, -1);
        child.copy(0, 0, 1, 1, 0);
        child.copy(1, 0, 1, 1, 1);
        due("run", child.run(99) > 0, true);
        due("states", states(child), "dddf");
        // A grandchild that goes on does not hold the parent of a child that failed.
        LaneMill grand = new LaneMill();
        kernel(grand, 1, 0, "k 0 1", "c 0 1 0");
        kernel(grand, 1, 0, "k 0 1", "c 0 2 0", "R 0 0");
        kernel(grand, 1, 0, "j 0");
        grand.launch(0, 0, 1, 1, -1);
        grand.step(50);
        due("states", states(grand), "dfr");
        due("isSound", grand.isSound(), true);
    }

    // ---- races

    private static void races() {
        due("reads", racesOf(1, 8, "r 1 0"), "/0");
        due("writes of two threads", racesOf(1, 2, "w 0 1"), ",5/1");
        due("writes of one thread", racesOf(1, 1, "w 0 1", "w 0 1", "r 1 0"), "/0");
        due("writes of two groups", racesOf(1, 5, "w 0 1"), ",5/1");
        due("write and read", racesOf(1, 2, "t 1", "z 1 5", "w 0 1", "e", "r 1 0"), ",5/1");
        due("atomic", racesOf(2, 8, "a 1 0 1", "x 1 0 1", "r 1 0"), "/0");
        due("atomic and write", racesOf(1, 2, "t 1", "z 1 5", "w 0 1", "e", "a 1 0 1"), ",5/1");
        due("exchange and write of blocks", racesOf(2, 1, "n 1", "z 1 5", "w 0 1", "e", "x 1 0 1"), ",5/1");
        due("writes of two blocks", racesOf(2, 1, "w 0 1"), ",5/1");
        due("blocks with barriers", racesOf(2, 1, "b", "w 0 1", "b"), ",5/1");
        due("write, barrier, read", racesOf(1, 8, "t 1", "z 1 5", "b", "j 7", "w 0 1", "j 3", "r 1 0"), "/0");
        due("read, barrier, write", racesOf(1, 8, "r 1 0", "b", "t 1", "z 1 7", "e", "e", "w 0 1"), "/0");
        due("a barrier behind", racesOf(1, 2, "w 0 1", "b", "b"), ",5/1");
        due("two cells", racesOf(1, 4, "t 1", "w 1 1", "w 0 1", "k 0 2", "r 1 0", "k 0 60", "w 0 0"), ",2,5,60/3");
        // A thread at fault does not access its cell, nor do higher ones.
        LaneMill fault = launched(1, 4, 2, 0, "l 0", "k 1 1", "= 1 0 1", "z 1 6", "k 0 64", "j 7", "k 0 7", "w 0 0");
        fault.run(30);
        due("fault", fault.faultAt(0) + racingCells(fault, 0), "107/0");
        refuses("cell -1", INDEX, () -> fault.isRacing(0, -1));
        refuses("cell 64", INDEX, () -> fault.isRacing(0, 64));
        refuses("cell least", INDEX, () -> fault.isRacing(0, LEAST));
        refuses("cell greatest", INDEX, () -> fault.isRacing(0, GREATEST));
        refuses("launch 1", INDEX, () -> fault.isRacing(1, 0));
        // Threads of different launches do not race.
        LaneMill apart = new LaneMill();
        kernel(apart, 1, 0, "w 0 0");
        apart.launch(0, 0, 1, 1, -1);
        apart.launch(1, 0, 1, 1, -1);
        apart.run(9);
        due("launches", racingCells(apart, 0) + racingCells(apart, 1), "/0/0");
    }

    /** The races of a kernel whose first instruction names cell 5 by the register 0. */
    private static String racesOf(int blocks, int threads, String... lines) {
        String[] all = new String[lines.length + 1];
        all[0] = "k 0 5";
        System.arraycopy(lines, 0, all, 1, lines.length);
        LaneMill mill = launched(blocks, threads, 2, 0, all);
        mill.run(500);
        return racingCells(mill, 0);
    }

    private static void sharedRaces() {
        LaneMill mill = launched(3, 2, 2, 4, "W 0 0", "k 0 3", "R 1 0", "W 0 0");
        mill.run(99);
        due("each block by itself", racingCells(mill, 0), "/6");
        LaneMill barrier = launched(3, 2, 2, 4, "t 0", "W 0 0", "b", "k 0 0", "R 1 0", "b", "t 0", "z 0 9", "e",
            "W 0 0");
        barrier.run(99);
        due("barriers between", racingCells(barrier, 0) + " " + barrier.barriers(), "/0 6");
        LaneMill single = launched(3, 1, 2, 4, "W 0 0", "R 1 0", "W 0 0");
        single.run(99);
        due("blocks have cells of their own", racingCells(single, 0), "/0");
        LaneMill both = launched(1, 2, 2, 4, "W 0 0", "w 0 0", "W 0 0");
        both.run(99);
        due("global and shared", racingCells(both, 0), ",0/2");
    }

    // ---- serial

    private static void serial() {
        LaneMill mill = new LaneMill();
        kernel(mill, 3, 1, "t 0", "k 1 9", "r 2 1", "+ 2 2 0", "n 0", "+ 2 2 0", "w 1 2", "k 1 10", "w 1 0");
        mill.poke(9, 100);
        mill.poke(20, 3);
        due("sum", mill.serial(0, 2, 4, false, 9), 100 + 2 * 6 + 4);
        due("last block", mill.serial(0, 3, 4, false, 10), 2);
        due("last block, falling", mill.serial(0, 3, 4, true, 10), 0);
        due("untouched", mill.serial(0, 6, 16, false, 20), 3);
        due("again", mill.serial(0, 2, 4, true, 9), 116);
        due("nothing has changed", mill.peek(9) + " " + mill.launches() + " " + mill.cycle() + " " + mill.lanes(),
            "100 0 0 0");
        // Letters 'l', 'a', 'x', 'f', and threads by falling numbers.
        kernel(mill, 3, 1, "l 0", "k 1 9", "f", "x 2 1 0", "k 1 11", "a 2 1 0");
        due("x", mill.serial(1, 1, 7, false, 9) + " " + mill.serial(1, 1, 7, true, 9), "2 0");
        due("a", mill.serial(1, 1, 7, false, 11), 6 + 3);
        // Shared cells and barriers: each thread writes its number, and reads that of its neighbour.
        kernel(mill, 4, 16, "t 0", "W 0 0", "b", "k 1 3", "- 1 1 0", "R 2 1", "k 3 30", "+ 3 3 0", "w 3 2");
        due("neighbours", mill.serial(2, 2, 4, false, 30) + " " + mill.serial(2, 2, 4, true, 33), "3 0");
        // Shared cells are 0 at first in each block.
        kernel(mill, 2, 1, "R 1 0", "k 0 40", "w 0 1", "k 1 5", "k 0 0", "W 0 1");
        due("blocks", mill.serial(3, 2, 1, false, 40), 0);
        due("threads", mill.serial(3, 2, 2, false, 40), 5);
        // A block that fits into no unit is run all the same.
        LaneMill large = new LaneMill();
        kernel(large, 8, 16, "t 0", "w 0 0");
        due("fits", large.fits(0, 16), 0);
        due("large", large.serial(0, 1, 16, false, 15), 15);
        large.addKernel(1, 0);
        large.poke(1, 6);
        due("empty", large.serial(1, 6, 16, true, 1), 6);
        // Threads that have ended are not waited for.
        LaneMill ended = new LaneMill();
        kernel(ended, 2, 0, "t 0", "z 0 3", "b", "k 1 9", "w 1 0");
        due("ended", ended.serial(0, 1, 3, false, 9) + " " + ended.serial(0, 1, 3, true, 9), "2 1");
    }

    private static void serialExceptions() {
        LaneMill mill = new LaneMill();
        kernel(mill, 1, 0, "j 0", "v 0 0");
        kernel(mill, 1, 0, "j 0");
        for (int bad : new int[] {4, -1, LEAST, GREATEST}) {
            refuses("kernel " + bad, INDEX, () -> mill.serial(bad, 0, 0, false, 0));
        }
        for (int bad : new int[] {64, -1, LEAST, GREATEST}) {
            refuses("cell " + bad, INDEX, () -> mill.serial(0, 0, 0, false, bad));
        }
        for (int bad : new int[] {0, 7, -1, LEAST, GREATEST}) {
            refuses("blocks " + bad, ARGUMENT, () -> mill.serial(0, bad, 1, false, 0));
        }
        for (int bad : new int[] {0, 17, -1, LEAST, GREATEST}) {
            refuses("threads " + bad, ARGUMENT, () -> mill.serial(0, 1, bad, false, 0));
        }
        refuses("v", UNSUPPORTED, () -> mill.serial(0, 1, 1, false, 0));
        refuses("without end", STATE, () -> mill.serial(1, 1, 1, false, 0));
        for (String letter : new String[] {"s 0 0 0", "c 0 0 0", "v 0 0"}) {
            LaneMill one = new LaneMill();
            kernel(one, 1, 0, "e", letter);
            refuses(letter, UNSUPPORTED, () -> one.serial(0, 1, 1, false, 0));
        }
        for (String letter : new String[] {"r 0 0", "w 0 0", "a 0 0 0", "x 0 0 0", "R 0 0", "W 0 0"}) {
            LaneMill one = new LaneMill();
            kernel(one, 1, 16, "k 0 -1", letter);
            refuses(letter, STATE, () -> one.serial(0, 1, 1, false, 0));
        }
        LaneMill barrier = new LaneMill();
        kernel(barrier, 1, 0, "t 0", "z 0 3", "b", "b", "e");
        refuses("barrier", STATE, () -> barrier.serial(0, 1, 2, false, 0));
        due("one thread", barrier.serial(0, 1, 1, false, 0), 0);
        for (int last : new int[] {0, 1}) {
            // 66 rounds of three, and 2 or 3 ahead of them and behind them.
            LaneMill most = new LaneMill();
            String[] lines = new String[] {"k 0 66", "k 1 -1", "+ 0 0 1", "z 0 5", "j 2"};
            kernel(most, 2, 0, lines);
            due("one fewer", most.serial(0, 6, 16, false, 0), 0);
            for (int i = 0; i < last + 1; i++) {
                most.code(0, 'f', 0, 0, 0);
            }
            if (last == 0) {
                due("200 instructions", most.serial(0, 6, 16, true, 0), 0);
            } else {
                refuses("201 instructions", STATE, () -> most.serial(0, 1, 1, true, 0));
            }
        }
        // Instructions are counted across barriers, and for each block anew.
        LaneMill rounds = new LaneMill();
        kernel(rounds, 1, 0, "b", "j 0");
        refuses("barriers without end", STATE, () -> rounds.serial(0, 1, 2, false, 0));
    }

    // ---- figures

    private static void figures() {
        // Lanes under the mask: 4, 4, then 3 and 1 apart.
        LaneMill mill = launched(1, 4, 1, 0, "l 0", "z 0 3", "k 0 2", "e");
        due("run", mill.run(99), 4);
        due("lanes", mill.lanes(), 4L + 4 + 3 + 4);
        due("usedShare", mill.usedShare(), (float) 15 / (float) 16);
        due("meanDelay", mill.meanDelay(), 1.0);
        LaneMill third = launched(1, 1, 1, 0, "* 0 0 0", "k 0 1", "k 0 1");
        third.run(99);
        due("mean", third.meanDelay(), 4.0 / 3.0);
        due("share", third.usedShare(), 0.25f);
        // A fault of the first lane: a group has carried out an instruction, without a delay.
        LaneMill fault = launched(1, 4, 1, 0, "R 0 0");
        fault.run(9);
        due("share", fault.usedShare(), 0.0f);
        due("lanes and lost", fault.lanes() + " " + fault.lost(), "0 0");
        refuses("meanDelay", ARITHMETIC, fault::meanDelay);
        // A fault of a later lane: the lanes ahead of it count.
        LaneMill later = launched(1, 4, 1, 2, "l 0", "R 0 0");
        later.run(9);
        due("lanes", later.lanes() + " " + later.lost() + " " + later.faultAt(0), "6 0 201");
        due("share", later.usedShare(), 0.75f);
        due("mean", later.meanDelay(), 1.0);
    }

    /** A kernel without races, children, 'a' and 'x' leaves the same memory for each order, as serial says. */
    private static void sameMemoryForEachOrder() {
        String[] lines = {"n 0", "k 1 8", "* 0 0 1", "t 1", "+ 0 0 1", "r 2 0", "W 1 2", "b", "k 2 7", "- 2 2 1", "R 2 2",
            "+ 2 2 1", "w 0 2", "f", "r 2 0", "w 0 2"};
        for (char order : new char[] {'o', 'y', 'a'}) {
            LaneMill mill = new LaneMill();
            kernel(mill, 3, 8, lines);
            for (int cell = 0; cell < 64; cell++) {
                mill.poke(cell, cell * cell);
            }
            int[] want = new int[64];
            for (int cell = 0; cell < 64; cell++) {
                want[cell] = mill.serial(0, 6, 8, cell % 2 == 0, cell);
            }
            mill.setOrder(order);
            mill.launch(0, 0, 6, 8, -1);
            mill.run(500);
            due("done", mill.state(0) + racingCells(mill, 0), "d/0");
            for (int cell = 0; cell < 64; cell++) {
                due("cell " + cell + " by " + order, mill.peek(cell), want[cell]);
            }
        }
    }
}
