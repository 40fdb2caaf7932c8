/** The promises 1 to 20, sentence by sentence. */
final class CallsSentences {
    private static final int[] FAR = {Integer.MIN_VALUE, Integer.MIN_VALUE + 1, Integer.MAX_VALUE};

    private CallsSentences() {
    }

    static void tell() {
        newObject();
        tape();
        setup();
        offer();
        offerRefused();
        fetch();
        finish();
        batch();
        reap();
        notices();
        reset();
        tables();
    }

    private static void newObject() {
        Sentence.promise(1, "A SPLIT RING of 4 places, no FEATURES; no DRIVER, no DEVICE of STEPS; an empty tape.", () -> {
            RingMarks x = new RingMarks();
            Due.is("split", x.count(0), 0);
            Due.is("4 places", x.count(1), 4);
            Due.is("no features", x.count(2), 0);
            Due.is("an empty tape", x.count(4), 0);
            Due.is("no driver, no device", x.count(5) + x.count(6), 0);
            Due.same("positions", Bench.positions(x), "0 0 0 0");
            Due.is("no buffers", x.now(5) + x.now(6), 0);
            Due.is("all is free", x.now(4), 4);
            Due.is("no indirect ones", Bench.indirect(x, "r1"), -4);
            Due.is("four parts", Bench.direct(x, "r1r1r1r1"), 0);
            Due.is("not broken, nothing sent, no events", x.now(7) + x.now(8) + x.now(9) + x.now(10) + x.now(11), 0);
            Due.is("one state", x.states(), 1);
        });
    }

    private static void tape() {
        Sentence.promise(2, "Twenty bytes come behind the tape, of each number the highest first: how many it has;", () -> {
            RingMarks x = Bench.split(8, 0);
            // r123 w045 r006 w789 r012, each number a part.
            Due.is("twenty", x.feed(0x72313233, 0x77303435, 0x72303036, 0x77373839, 0x72303132), 20);
            Due.is("behind them", x.feed(0x77393939, 0x20202020, 0, 0, 0), 40);
            x.end(28);
            Due.is("offer", x.offer(0), 0);
            int[] len = {123, 45, 6, 789, 12, 999};
            for (int i = 0; i < 6; i++) {
                Due.is("part " + i, x.descriptor(0, i, 0), len[i]);
                Due.is("part " + i, x.descriptor(0, i, 1) & 2, i % 2 == 0 ? 0 : 2);
            }
            Due.is("behind what end() left", x.feed(0, 0, 0, 0, 0), 20);
            x.end(3);
            Due.is("behind what end() left", x.feed(0, 0, 0, 0, 0), 23);
            x.end(0);
            x.feed(0xFFFFFFFF, 0x80000000, 0, 0, 0);
            Due.is("bytes above 127", x.play(), 0);
        });
        Sentence.promise(2, "NONE, and none come, if it would have more than 100.", () -> {
            RingMarks x = new RingMarks();
            for (int k = 1; k <= 5; k++) {
                Due.is("feed " + k, x.feed(0x20202020, 0x20202020, 0x20202020, 0x20202020, 0x20202020), 20 * k);
            }
            Due.is("full", x.feed(0, 0, 0, 0, 0), -1);
            Due.is("none came", x.count(4), 100);
            x.end(81);
            Due.is("101", x.feed(0, 0, 0, 0, 0), -1);
            Due.is("none came", x.count(4), 81);
            x.end(80);
            Due.is("100", x.feed(0, 0, 0, 0, 0), 100);
        });
        Sentence.promise(3, "The tape has its first n bytes alone: true;", () -> {
            RingMarks x = new RingMarks();
            Due.is("0 of none", x.end(0), true);
            x.feed(0x72352077, 0x37000000, 0, 0, 0);
            Due.is("all", x.end(20), true);
            Due.is("five", x.end(5), true);
            Due.is("five", x.count(4), 5);
            Due.is("the first ones", x.offer(0), 0);
            Due.is("the first ones", x.descriptor(0, 0, 0) * 10 + x.descriptor(0, 1, 0), 57);
            x.feed(0x72390000, 0, 0, 0, 0);
            x.end(1);
            x.feed(0x38000000, 0, 0, 0, 0);
            x.end(2);
            x.offer(0);
            Due.is("what was cut off does not come back", x.descriptor(0, 2, 0), 8);
            x.feed(1, 1, 1, 1, 1);
            Due.is("none", x.end(0), true);
            Due.is("none", x.count(4), 0);
        });
        Sentence.promise(3, "false, if it has not so many, or n is below 0.", () -> {
            RingMarks x = new RingMarks();
            Due.is("1 of none", x.end(1), false);
            x.feed(0, 0, 0, 0, 0);
            Due.is("21 of 20", x.end(21), false);
            Due.is("below 0", x.end(-1), false);
            for (int n : FAR) {
                Due.is("far off", x.end(n), false);
            }
            Due.is("all stays", x.count(4), 20);
            x.end(7);
            Due.is("8 of 7", x.end(8), false);
            Due.is("all stays", x.count(4), 7);
        });
    }

    private static void setup() {
        Sentence.promise(4, "A new RING, SPLIT (0) or PACKED (1), of so many places and such FEATURES (0 to 7): 0;", () -> {
            for (int format = 0; format <= 1; format++) {
                RingMarks x = Bench.split(8, 7);
                Bench.indirect(x, "r1w2");
                Bench.direct(x, "w1r2");
                x.fetch();
                x.fetch();
                x.kick();
                x.event(0, 2);
                x.event(1, 2);
                Due.is("setup", x.setup(format, 4, 6), 0);
                Due.is("as told", x.count(0) * 100 + x.count(1) * 10 + x.count(2), format * 100 + 46);
                Due.same("positions", Bench.positions(x), "0 0 0 0");
                Due.is("free", x.now(4), 4);
                for (int what = 5; what <= 11; what++) {
                    Due.is("now " + what, x.now(what), 0);
                }
                Due.is("up to", x.now(12), -1);
                Due.same("table 0", Bench.table(x, 0), "0/0/0 0/0/0 0/0/0 0/0/0");
                Due.is("no table is laid", x.table(1) + x.table(2) + x.table(3) + x.table(4), 0);
                Due.same("rows", Bench.row(x, 0) + Bench.row(x, 1), "-1 -1 -1 -1-1 -1 -1 -1");
                Due.is("no buffer", x.buffer(0, 0), -1);
                Due.is("none is there", x.fetch() + x.reap(), -2);
                Due.is("nothing to tell of", x.kick() + x.signal(), 0);
            }
        });
        Sentence.promise(4, "NONE: not as told: all stays.", () -> {
            RingMarks x = Bench.split(8, 3);
            Bench.indirect(x, "r1");
            x.fetch();
            String before = Bench.positions(x) + Bench.table(x, 0) + Bench.buffers(x);
            int[][] wrong = {{-1, 4, 0}, {2, 4, 0}, {0, -4, 0}, {0, 0, 0}, {0, 1, 0}, {0, 3, 0}, {0, 5, 0}, {0, 6, 0}, {0, 7, 0}, {0, 9, 0},
                {0, 16, 0}, {1, 3, 0}, {1, 16, 0}, {0, 4, -1}, {0, 4, 8}, {1, 4, 8}, {1, 4, -1}};
            for (int[] w : wrong) {
                Due.is("setup " + w[0] + " " + w[1] + " " + w[2], x.setup(w[0], w[1], w[2]), -1);
            }
            for (int far : FAR) {
                Due.is("far off", x.setup(far, 4, 0) + x.setup(0, far, 0) + x.setup(0, 4, far), -3);
            }
            Due.same("all stays", Bench.positions(x) + Bench.table(x, 0) + Bench.buffers(x), before);
            Due.is("all stays", x.count(0) * 100 + x.count(1) * 10 + x.count(2), 83);
        });
    }

    private static void offer() {
        Sentence.promise(5, "The tape (empty then, with a FAULT, too, here and below) is a CHAIN that is OFFERED, direct (0) or indirect (1): the "
            + "number of the BUFFER;", () -> {
                RingMarks x = Bench.split(8, 2);
                Due.is("direct", Bench.direct(x, "r1r2"), 0);
                Due.is("empty then", x.count(4), 0);
                Due.is("indirect", Bench.indirect(x, "r1r2"), 1);
                Due.is("empty then", x.count(4), 0);
                Due.is("of two and of one", x.buffer(0, 7) * 10 + x.buffer(1, 7), 21);
                Due.is("a fault", Bench.direct(x, "r"), -1001);
                Due.is("empty then", x.count(4), 0);
                Due.is("too long", Bench.direct(x, "r1" + " ".repeat(60)), -1060);
                Due.is("empty then", x.count(4), 0);
                Due.is("refused", Bench.direct(x, "r1r1r1r1r1r1r1r1"), -5);
                Due.is("empty then", x.count(4), 0);
                Due.is("of an empty tape", x.offer(0), -1000);
            });
        Sentence.promise(5, "-2: another how;", () -> {
            RingMarks x = Bench.split(8, 2);
            for (int how : new int[] {-1, 2, 3, Integer.MIN_VALUE, Integer.MAX_VALUE}) {
                Due.is("how " + how, Due.offer(x, "r1", how), -2);
                Due.is("empty then", x.count(4), 0);
                Due.is("ahead of a fault", Due.offer(x, "x", how), -2);
            }
            Due.is("nothing is offered", x.now(5), 0);
        });
        Sentence.promise(5, "-1000 less the place of a FAULT (more than 60 bytes: 60, nothing is read);", () -> {
            RingMarks x = Bench.split(8, 0);
            Due.is("0", Bench.direct(x, "x"), -1000);
            Due.is("59", Bench.direct(x, " ".repeat(59) + "x"), -1059);
            Due.is("60 blanks, the end", Bench.direct(x, " ".repeat(60)), -1060);
            Due.is("61 bytes", Bench.direct(x, "x" + " ".repeat(60)), -1060);
            Due.is("100 bytes", Bench.direct(x, "x".repeat(100)), -1060);
            Due.is("60 bytes", Bench.direct(x, "r1" + " ".repeat(58)), 0);
        });
    }

    /** A split ring whose four tables are had, with three descriptors free. */
    private static RingMarks withoutTables() {
        RingMarks x = Bench.split(8, 2);
        for (int k = 0; k < 4; k++) {
            Bench.indirect(x, "r1");
        }
        return x;
    }

    private static void offerRefused() {
        Sentence.promise(5, "-3: the device is BROKEN;", () -> {
            RingMarks x = Bench.with(0, 4, 0, "w1r1", 0);
            x.fetch();
            Due.is("broken", Bench.direct(x, "r1"), -3);
            Due.is("ahead of -4", Bench.indirect(x, "r1"), -3);
            Due.is("ahead of -5", Bench.direct(x, "r1r1r1"), -3);
            Due.is("behind a fault", Bench.direct(x, "r1r"), -1003);
            Due.is("nothing is offered", x.now(5), 1);
        });
        Sentence.promise(5, "-4: indirect without that FEATURE;", () -> {
            for (int features = 0; features <= 7; features++) {
                RingMarks x = Bench.packed(2, features);
                Due.is("features " + features, Bench.indirect(x, "r1"), (features & 2) == 0 ? -4 : 0);
            }
            RingMarks x = Bench.split(2, 0);
            Bench.direct(x, "r1r1");
            Due.is("ahead of -5", Bench.indirect(x, "r1"), -4);
        });
        Sentence.promise(5, "-5: too few DESCRIPTORS (places, IDS) are free;", () -> {
            for (int format = 0; format <= 1; format++) {
                for (int n = 2; n <= 8; n *= 2) {
                    RingMarks x = Due.ring(format, n, 2);
                    Due.is("one too many", n == 8 ? -5 : Bench.direct(x, "r1".repeat(n + 1)), -5);
                    Due.is("one is left", Bench.direct(x, "r1".repeat(n - 1)), 0);
                    Due.is("two", Bench.direct(x, "r1r1"), -5);
                    Due.is("indirect of eight", Bench.indirect(x, "r1r1r1r1r1r1r1r1"), 1);
                    Due.is("none is left", Bench.indirect(x, "r1") + Bench.direct(x, "r1"), -10);
                    x.fetch();
                    x.finish(0, 0);
                    Due.is("till it is reaped", Bench.direct(x, "r1"), -5);
                    x.reap();
                    Due.is("free again", Bench.direct(x, "r1".repeat(n - 1)), 2);
                }
            }
            RingMarks x = withoutTables();
            Bench.direct(x, "r1r1r1r1");
            Due.is("ahead of -6", Bench.indirect(x, "r1"), -5);
        });
        Sentence.promise(5, "-6: no table is free (PACKED: that of its ID);", () -> {
            RingMarks x = withoutTables();
            Due.is("split", Bench.indirect(x, "r1"), -6);
            Due.is("direct", Bench.direct(x, "r1"), 4);
            x.fetch();
            x.finish(0, 0);
            Due.is("till it is reaped", Bench.indirect(x, "r1"), -6);
            x.reap();
            Due.is("free again", Bench.indirect(x, "r1"), 5);
            x = Bench.packed(8, 2);
            Bench.indirect(x, "r1");
            Bench.direct(x, "r1r1r1");
            Bench.direct(x, "r1");
            Bench.direct(x, "r1");
            Due.is("packed: ID 4 has the table of ID 0, though others are free", Bench.indirect(x, "r1"), -6);
            Due.is("direct", Bench.direct(x, "r1"), 4);
            Due.is("ID 5 has table 2", Bench.indirect(x, "r1"), 5);
            Due.is("ID 5 has table 2", x.buffer(5, 3) * 10 + x.buffer(5, 2), 25);
        });
        Sentence.promise(5, "-7: there were 500 BUFFERS (in this order).", () -> {
            RingMarks x = withBuffers(499);
            Due.is("the last", Bench.direct(x, "r1"), 499);
            Due.is("no more", Bench.direct(x, "r1"), -7);
            Due.is("no indirect one", Bench.indirect(x, "r1"), -7);
            Due.is("behind -5", Bench.direct(x, "r1r1r1r1r1r1r1r1"), -5);
            Due.is("the last is there", x.buffer(499, 0), 0);
            Due.is("it goes on", x.fetch(), 499);
            x.reset();
            Due.is("behind a reset, too", Bench.direct(x, "r1"), -7);
            x.drawn(60, 1);
            Due.is("drawn ones, too", x.now(5), 500);
            x.setup(0, 4, 0);
            Due.is("since setup()", Bench.direct(x, "r1"), 0);
            x = withBuffers(496);
            for (int k = 0; k < 4; k++) {
                Bench.indirect(x, "w1r1");
            }
            Due.is("behind -6", Bench.indirect(x, "r1"), -6);
            Due.is("direct", Bench.direct(x, "r1"), -7);
            x.fetch();
            Due.is("behind -3", Bench.direct(x, "r1"), -3);
            Due.is("behind a fault", Bench.direct(x, "r"), -1001);
            Due.is("behind -2", Due.offer(x, "r1", 2), -2);
        });
    }

    /** A split ring that is free, behind so many buffers. */
    private static RingMarks withBuffers(int many) {
        RingMarks x = Bench.split(8, 2);
        // Many are offered by drawn deeds: an object is used for 512 calls at most.
        int calls = 1;
        for (int k = 0; k < 100 && x.now(5) < many - 30; k++) {
            x.drawn(60, k);
            x.reset();
            calls += 3;
        }
        for (int k = 0; k < 40 && x.now(5) < many; k++) {
            Bench.direct(x, "r1");
            x.reset();
            calls += 5;
        }
        Due.is("not too many calls", calls < 450, true);
        Due.is("so many", x.now(5), many);
        return x;
    }

    private static void fetch() {
        Sentence.promise(6, "The device FETCHES: the number of the BUFFER; NONE: none is there; -2: it is BROKEN; -10 less the reason: REFUSED.", () -> {
            for (int format = 0; format <= 1; format++) {
                RingMarks x = Due.ring(format, 4, 0);
                Due.is("none", x.fetch(), -1);
                Bench.direct(x, "r1");
                Bench.direct(x, "w1r1");
                Due.is("the number", x.fetch(), 0);
                Due.is("its state", x.buffer(0, 0), 1);
                Due.is("refused", x.fetch(), -16);
                Due.is("its state", x.buffer(1, 0), 0);
                Due.is("broken", x.fetch(), -2);
                Due.is("SEEN", x.now(1), 1);
                x.reset();
                Due.is("none", x.fetch(), -1);
            }
            RingMarks x = Bench.with(1, 4, 0, "w1r1", 0);
            x.fetch();
            Due.is("broken", x.fetch(), -2);
            Bench.turn(x, 0, 0, 8);
            Due.is("broken till reset(), though its mark is gone", x.fetch(), -2);
            Due.is("by that reason", x.now(7), 6);
            x.reset();
            Due.is("none is there", x.fetch(), -1);
        });
    }

    private static void finish() {
        Sentence.promise(7, "The device FINISHES a BUFFER with n bytes written: 0;", () -> {
            RingMarks x = Bench.with(0, 4, 0, "r1w5", 0);
            x.fetch();
            Due.is("all", x.finish(0, 5), 0);
            Due.is("finished, written", x.buffer(0, 0) * 10 + x.buffer(0, 6), 25);
        });
        Sentence.promise(7, "NONE: it is none that is FETCHED and not FINISHED;", () -> {
            RingMarks x = Bench.split(4, 0);
            Due.is("no such one", x.finish(0, 0), -1);
            Bench.direct(x, "w5");
            Due.is("offered alone", x.finish(0, 0), -1);
            Due.is("ahead of -2", x.finish(0, 99), -1);
            x.fetch();
            for (int b : new int[] {-1, 1, 499, 500, Integer.MIN_VALUE, Integer.MAX_VALUE}) {
                Due.is("no such one " + b, x.finish(b, 0), -1);
            }
            x.finish(0, 0);
            Due.is("finished", x.finish(0, 0), -1);
            x.reap();
            Due.is("reaped", x.finish(0, 0), -1);
            Bench.direct(x, "w5");
            x.fetch();
            x.reset();
            Due.is("drained", x.finish(1, 0), -1);
            Due.is("USED stays", x.now(2), 0);
        });
        Sentence.promise(7, "-2: n is more than its CAPACITY, or below 0;", () -> {
            RingMarks x = Bench.split(4, 1);
            Bench.direct(x, "w5");
            Bench.direct(x, "w5w6");
            Bench.fetchAll(x, 2);
            for (int n : new int[] {6, -1, Integer.MIN_VALUE, Integer.MAX_VALUE}) {
                Due.is("n " + n, x.finish(0, n), -2);
            }
            Due.is("ahead of -3", x.finish(1, 12), -2);
            Bench.direct(x, "w1");
            x.spoil(0, 3, 1, 4);
            x.fetch();
            Due.is("ahead of -4", x.finish(0, 6), -2);
        });
        Sentence.promise(7, "-3: another one is first; -4: BROKEN (in this order).", () -> {
            RingMarks x = Bench.split(4, 1);
            Bench.direct(x, "w5");
            Bench.direct(x, "w5");
            Bench.direct(x, "w1r1");
            Bench.fetchAll(x, 2);
            Due.is("another is first", x.finish(1, 5), -3);
            Due.is("broken", x.fetch(), -16);
            String before = Bench.whole(x);
            Due.is("-3 ahead of -4", x.finish(1, 5), -3);
            Due.is("-4", x.finish(0, 5), -4);
            Due.same("nothing is finished", Bench.buffers(x) + " " + Bench.positions(x), "110 3 2 0 0");
            Due.same("nothing is told", Bench.whole(x), before);
            x = Bench.split(4, 0);
            Bench.direct(x, "w5");
            Bench.direct(x, "w5");
            Bench.fetchAll(x, 2);
            Due.is("no order", x.finish(1, 5), 0);
        });
    }

    private static void batch() {
        Sentence.promise(8, "With ORDER a BATCH up to a BUFFER is FINISHED, n bytes written into that: how many;", () -> {
            RingMarks x = Bench.split(8, 1);
            for (int k = 0; k < 8; k++) {
                Bench.direct(x, "w5");
            }
            Bench.fetchAll(x, 7);
            Due.is("one", x.batch(0, 1), 1);
            Due.is("five", x.batch(5, 2), 5);
            Due.is("one", x.batch(6, 0), 1);
            Due.same("the last was not fetched", Bench.buffers(x), "22222220");
            Due.is("written", x.buffer(0, 6) * 100 + x.buffer(5, 6) * 10 + x.buffer(6, 6), 120);
            Due.is("not written", x.buffer(1, 6) + x.buffer(4, 6), -2);
        });
        Sentence.promise(8, "NONE: it is none that is FETCHED and not FINISHED;", () -> {
            for (int features = 0; features <= 1; features++) {
                RingMarks x = Bench.split(4, features);
                Due.is("no such one", x.batch(0, 0), -1);
                Bench.direct(x, "w5");
                Due.is("offered alone, ahead of -2, -3", x.batch(0, 99), -1);
                x.fetch();
                for (int b : new int[] {-1, 1, 500, Integer.MIN_VALUE, Integer.MAX_VALUE}) {
                    Due.is("no such one " + b, x.batch(b, 0), -1);
                }
                x.finish(0, 0);
                Due.is("finished", x.batch(0, 0), -1);
                x.reset();
                Due.is("drained", x.batch(0, 0), -1);
            }
        });
        Sentence.promise(8, "-2: n is more than its CAPACITY, or below 0;", () -> {
            for (int features = 0; features <= 1; features++) {
                RingMarks x = Bench.split(4, features);
                Bench.direct(x, "w9");
                Bench.direct(x, "w5");
                Bench.fetchAll(x, 2);
                for (int n : new int[] {6, -1, Integer.MIN_VALUE, Integer.MAX_VALUE}) {
                    Due.is("n " + n, x.batch(1, n), -2);
                }
                Due.same("none is finished", Bench.buffers(x), "11");
            }
        });
        Sentence.promise(8, "-3: no ORDER; -4: BROKEN (in this order).", () -> {
            for (int features = 0; features <= 7; features++) {
                RingMarks x = Bench.split(4, features);
                Bench.direct(x, "w5");
                Bench.direct(x, "w1r1");
                x.fetch();
                Due.is("features " + features, x.image(0), true);
                Due.is("features " + features, x.batch(0, 5), (features & 1) == 0 ? -3 : 1);
                x.restore(0);
                x.fetch();
                String before = Bench.whole(x);
                Due.is("broken, features " + features, x.batch(0, 5), (features & 1) == 0 ? -3 : -4);
                Due.same("nothing is told, features " + features, Bench.whole(x), before);
            }
        });
    }

    private static void reap() {
        Sentence.promise(9, "The driver REAPS: the number of the BUFFER; NONE: none is there; -2: it is LOST.", () -> {
            RingMarks x = Bench.packed(4, 0);
            Due.is("none", x.reap(), -1);
            Bench.direct(x, "w5");
            x.fetch();
            x.finish(0, 2);
            x.spoil(0, 0, 2, 1);
            Due.is("lost", x.reap(), -2);
            Due.is("lost again", x.reap(), -2);
            x.spoil(0, 0, 2, 0);
            Due.is("the number", x.reap(), 0);
            Due.is("once", x.reap(), -1);
        });
        Sentence.promise(10, "The length told by the latest reap() of 0 or more;", () -> {
            RingMarks x = Bench.packed(8, 0);
            for (int k = 0; k < 3; k++) {
                Bench.direct(x, "w5");
                x.fetch();
                x.finish(k, k + 1);
            }
            Due.is("reap", x.reap(), 0);
            Due.is("length", x.length(), 1);
            Due.is("again", x.length(), 1);
            x.spoil(0, 1, 2, 7);
            Due.is("lost", x.reap(), -2);
            Due.is("not by a lost one", x.length(), 1);
            x.spoil(0, 1, 2, 1);
            Due.is("reap", x.reap(), 1);
            Due.is("length", x.length(), 2);
            Due.is("reap", x.reap(), 2);
            Due.is("none", x.reap(), -1);
            Due.is("not by none", x.length(), 3);
            x.reset();
            Due.is("none", x.reap(), -1);
            Due.is("not by none behind a reset", x.length(), 3);
            x.spoil(0, 0, 1, 24);
            Due.is("lost", x.reap(), -2);
            Due.is("not by a lost one behind a reset", x.length(), 3);
            x.setup(0, 2, 0);
            Due.is("none", x.reap(), -1);
            Due.is("it stays", x.length(), 3);
        });
        Sentence.promise(10, "NONE: none was told of it, ahead of any.", () -> {
            RingMarks x = Bench.split(4, 1);
            Due.is("ahead of any", x.length(), -1);
            Due.is("none", x.reap(), -1);
            Due.is("ahead of any", x.length(), -1);
            for (int k = 0; k < 3; k++) {
                Bench.direct(x, "w5");
                x.fetch();
            }
            x.finish(0, 0);
            x.batch(2, 4);
            x.reap();
            Due.is("0 was told", x.length(), 0);
            x.reap();
            Due.is("none was told", x.length(), -1);
            x.reap();
            Due.is("4 was told", x.length(), 4);
        });
    }

    private static void notices() {
        Sentence.promise(11, "KICK: 1 a notice is sent, 0 not.", () -> {
            RingMarks x = Bench.split(4, 0);
            Due.is("not", x.kick(), 0);
            Bench.direct(x, "r1");
            Due.is("sent", x.kick(), 1);
            Due.is("not again", x.kick(), 0);
            Due.is("one", x.now(8) * 10 + x.now(9), 10);
        });
        Sentence.promise(12, "SIGNAL: 1, 0 likewise.", () -> {
            RingMarks x = Bench.split(4, 0);
            Due.is("not", x.signal(), 0);
            Bench.direct(x, "r1");
            x.fetch();
            Due.is("not", x.signal(), 0);
            x.finish(0, 0);
            Due.is("sent", x.signal(), 1);
            Due.is("not again", x.signal(), 0);
            x.reap();
            Due.is("not by a reap", x.signal(), 0);
            Due.is("one", x.now(8) * 10 + x.now(9), 1);
        });
        Sentence.promise(13, "The event is SEEN (side 1: the device tells it), TAKEN (0: the driver) and n (0 to M - 1): it;", () -> {
            for (int r = 0; r < 6; r++) {
                int n = 2 << r % 3;
                RingMarks x = Due.ring(r / 3, n, 4);
                int m = x.count(3);
                Bench.rounds(x, m - 2);
                Bench.direct(x, "r1");
                x.fetch();
                Due.is("SEEN and 0", x.event(1, 0), m - 1);
                Due.is("kept", x.now(10), m - 1);
                Due.is("SEEN and 1 wraps", x.event(1, 1), 0);
                Due.is("SEEN and M - 1", x.event(1, m - 1), m - 2);
                Due.is("kept", x.now(10), m - 2);
                Due.is("the driver's is 0", x.now(11), 0);
                Due.is("TAKEN and 0", x.event(0, 0), m - 2);
                Due.is("TAKEN and 2 wraps", x.event(0, 2), 0);
                Due.is("TAKEN and M - 1", x.event(0, m - 1), m - 3);
                Due.is("kept", x.now(11), m - 3);
                Due.is("the device's stays", x.now(10), m - 2);
            }
        });
        Sentence.promise(13, "NONE: not as told.", () -> {
            for (int r = 0; r < 6; r++) {
                RingMarks x = Due.ring(r / 3, 2 << r % 3, 4);
                int m = x.count(3);
                x.event(0, 1);
                x.event(1, 2);
                Due.is("n", x.event(0, m) + x.event(1, m) + x.event(0, -1) + x.event(1, -1), -4);
                Due.is("side", x.event(2, 0) + x.event(-1, 0), -2);
                for (int far : FAR) {
                    Due.is("far off", x.event(far, 0) + x.event(0, far) + x.event(1, far), -3);
                }
                Due.is("they stay", x.now(10) * 10 + x.now(11), 21);
            }
        });
        Sentence.promise(14, "The driver (0), the device (1) hushes the other one (1) or not (0): 0;", () -> {
            RingMarks x = Bench.split(4, 0);
            Due.is("the driver", x.hush(0, 1), 0);
            Bench.round(x, "r1");
            Due.is("no signal, a kick", x.kick() * 10 + x.signal(), 10);
            Due.is("not any more", x.hush(0, 0), 0);
            Due.is("the device", x.hush(1, 1), 0);
            Bench.round(x, "r1");
            Due.is("a signal, no kick", x.kick() * 10 + x.signal(), 1);
            Due.is("not any more", x.hush(1, 0), 0);
            Bench.round(x, "r1");
            Due.is("both", x.kick() * 10 + x.signal(), 11);
        });
        Sentence.promise(14, "NONE: not as told.", () -> {
            RingMarks x = Bench.split(4, 0);
            int[][] wrong = {{-1, 0}, {-1, 1}, {2, 0}, {2, 1}, {0, -1}, {0, 2}, {1, -1}, {1, 2}};
            for (int[] w : wrong) {
                Due.is("hush " + w[0] + " " + w[1], x.hush(w[0], w[1]), -1);
            }
            for (int far : FAR) {
                Due.is("far off", x.hush(far, 1) + x.hush(0, far) + x.hush(1, far), -3);
            }
            Bench.round(x, "r1");
            Due.is("nothing is hushed", x.kick() * 10 + x.signal(), 11);
        });
    }

    private static void reset() {
        Sentence.promise(15, "RESET: how many BUFFERS were DRAINED.", () -> {
            for (int format = 0; format <= 1; format++) {
                RingMarks x = Due.ring(format, 8, 0);
                Due.is("none", x.reset(), 0);
                Bench.rounds(x, 2);
                Due.is("none of those reaped", x.reset(), 0);
                for (int k = 0; k < 8; k++) {
                    Bench.direct(x, "r1");
                }
                Due.is("eight", x.reset(), 8);
                Due.is("once", x.reset(), 0);
                Due.is("ten in all, none open", x.now(5) * 10 + x.now(6), 100);
            }
        });
        Sentence.promise(16, "The k-th (from 0) of those DRAINED by the latest reset(); NONE: none such, or ahead of any.", () -> {
            RingMarks x = Bench.split(8, 0);
            Due.is("ahead of any", x.drained(0), -1);
            Bench.rounds(x, 1);
            for (int k = 0; k < 8; k++) {
                Bench.direct(x, "r1");
            }
            Due.is("ahead of any", x.drained(0), -1);
            x.reset();
            Due.same("eight", Bench.drained(x), "1 2 3 4 5 6 7 8");
            Due.is("no ninth", x.drained(8), -1);
            Due.is("below 0", x.drained(-1), -1);
            for (int far : FAR) {
                Due.is("far off", x.drained(far), -1);
            }
            x.setup(0, 2, 0);
            Due.same("by the latest reset()", Bench.drained(x), "1 2 3 4 5 6 7 8");
            Bench.direct(x, "r1");
            x.reset();
            Due.same("one", Bench.drained(x), "0");
            x.reset();
            Due.same("none", Bench.drained(x), "");
        });
    }

    private static void tables() {
        Sentence.promise(17, "DESCRIPTOR i of a table (0 to 4) is spoilt: LEN (what 0) is v (0 to 999), FLAGS (1: 0 to 31), LINK (2: 0 to 99): what it "
            + "was;", () -> {
                for (int format = 0; format <= 1; format++) {
                    RingMarks x = Due.ring(format, 4, 2);
                    for (int k = 0; k < 4; k++) {
                        Bench.indirect(x, "r5w6");
                    }
                    int[] most = {999, 31, 99};
                    for (int table = 0; table <= 4; table++) {
                        for (int what = 0; what < 3; what++) {
                            int i = table == 0 ? 3 : 1;
                            int was = x.descriptor(table, i, what);
                            Due.is("what it was", x.spoil(table, i, what, most[what]), was);
                            Due.is("the most", x.spoil(table, i, what, 0), most[what]);
                            Due.is("the least", x.descriptor(table, i, what), 0);
                        }
                    }
                    Due.same("no other one", Bench.descriptor(x, 4, 0), "5/1/1");
                }
            });
        Sentence.promise(17, "NONE: no such ones (of an INDIRECT TABLE: as many as it has).", () -> {
            RingMarks x = Bench.split(4, 2);
            Bench.indirect(x, "r5w6");
            String before = Bench.table(x, 0) + Bench.table(x, 1);
            int[][] wrong = {{0, 0, 0, 1000}, {0, 0, 0, -1}, {0, 0, 1, 32}, {0, 0, 1, -1}, {0, 0, 2, 100}, {0, 0, 2, -1}, {0, 0, 3, 0}, {0, 0, -1, 0},
                {0, 4, 0, 0}, {0, -1, 0, 0}, {1, 2, 0, 0}, {1, -1, 0, 0}, {2, 0, 0, 0}, {4, 0, 0, 0}, {5, 0, 0, 0}, {-1, 0, 0, 0}};
            for (int[] w : wrong) {
                Due.is("spoil " + w[0] + " " + w[1] + " " + w[2] + " " + w[3], x.spoil(w[0], w[1], w[2], w[3]), -1);
            }
            for (int far : FAR) {
                Due.is("far off", x.spoil(far, 0, 0, 0) + x.spoil(0, far, 0, 0) + x.spoil(0, 0, far, 0) + x.spoil(0, 0, 0, far), -4);
            }
            Due.same("nothing is spoilt", Bench.table(x, 0) + Bench.table(x, 1), before);
        });
        Sentence.promise(18, "LEN (0), FLAGS (1), LINK (2) of it; NONE: no such ones.", () -> {
            RingMarks x = Bench.split(4, 2);
            Bench.indirect(x, "r5w6");
            Due.same("table 0", Bench.descriptor(x, 0, 0), "2/4/1");
            Due.same("table 1", Bench.table(x, 1), "5/1/1 6/2/0");
            int[][] wrong = {{0, 0, 3}, {0, 0, -1}, {0, 4, 0}, {0, -1, 0}, {1, 2, 0}, {1, -1, 0}, {2, 0, 0}, {5, 0, 0}, {-1, 0, 0}};
            for (int[] w : wrong) {
                Due.is("descriptor " + w[0] + " " + w[1] + " " + w[2], x.descriptor(w[0], w[1], w[2]), -1);
            }
            for (int far : FAR) {
                Due.is("far off", x.descriptor(far, 0, 0) + x.descriptor(0, far, 0) + x.descriptor(0, 0, far), -3);
            }
        });
        Sentence.promise(19, "DESCRIPTORS of an INDIRECT TABLE (0: it was not laid, or setup(); they stay when it is free), N for table 0; NONE: no such "
            + "table.", () -> {
                RingMarks x = Bench.split(8, 2);
                Due.is("N", x.table(0), 8);
                Due.is("not laid", x.table(1) + x.table(4), 0);
                Bench.indirect(x, "r1r1r1");
                Due.is("three", x.table(1), 3);
                Due.is("not laid", x.table(2), 0);
                x.fetch();
                x.finish(0, 0);
                x.reap();
                Due.is("free", x.table(1), 3);
                x.reset();
                Due.is("reset", x.table(1), 3);
                Due.same("they stay", Bench.table(x, 1), "1/1/1 1/1/2 1/0/0");
                Bench.indirect(x, "r1");
                Due.is("laid anew with fewer", x.table(1), 1);
                x.setup(0, 2, 2);
                Due.is("setup()", x.table(1), 0);
                Due.is("N", x.table(0), 2);
                Due.is("no such table", x.table(5) + x.table(-1), -2);
                for (int far : FAR) {
                    Due.is("far off", x.table(far), -1);
                }
            });
        Sentence.promise(20, "SPLIT: at a place of the rows: 0 the HEAD OFFERED there, 1 the HEAD USED, 2 its length; NONE each: none yet.", () -> {
            RingMarks x = Bench.split(4, 0);
            Due.same("none yet", Bench.row(x, 0) + Bench.row(x, 1) + Bench.row(x, 2), "-1 -1 -1 -1-1 -1 -1 -1-1 -1 -1 -1");
            Bench.direct(x, "w5w5");
            Bench.direct(x, "w6");
            Bench.fetchAll(x, 2);
            Due.same("offered", Bench.row(x, 0), "0 2 -1 -1");
            Due.same("none used yet", Bench.row(x, 1) + Bench.row(x, 2), "-1 -1 -1 -1-1 -1 -1 -1");
            x.finish(1, 0);
            Due.same("used", Bench.row(x, 1), "2 -1 -1 -1");
            Due.same("its length", Bench.row(x, 2), "0 -1 -1 -1");
            x.reap();
            Due.same("they stay", Bench.row(x, 0) + " " + Bench.row(x, 1), "0 2 -1 -1 2 -1 -1 -1");
        });
        Sentence.promise(20, "NONE, too: no such ones, PACKED.", () -> {
            RingMarks x = Bench.split(4, 0);
            for (int k = 0; k < 4; k++) {
                Bench.direct(x, "r1");
            }
            Due.is("the last place", x.row(3, 0), 3);
            Due.is("no such place", x.row(4, 0) + x.row(-1, 0), -2);
            Due.is("no such what", x.row(0, 3) + x.row(0, -1), -2);
            for (int far : FAR) {
                Due.is("far off", x.row(far, 0) + x.row(0, far), -2);
            }
            x = Bench.packed(4, 0);
            Bench.direct(x, "r1");
            x.fetch();
            x.finish(0, 0);
            Due.is("packed", x.row(0, 0) + x.row(0, 1) + x.row(0, 2), -3);
        });
    }
}
