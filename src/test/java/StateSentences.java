/** The promises 21 to 25 and 34 to 37, and part 4 of "Terms". */
final class StateSentences {
    private static final int[] FAR = {Integer.MIN_VALUE, Integer.MIN_VALUE + 1, Integer.MAX_VALUE};

    private StateSentences() {
    }

    static void tell() {
        buffers();
        now();
        walked();
        chain();
        due();
        draws();
        deeds();
        drawn();
        images();
        count();
    }

    private static void buffers() {
        Sentence.promise(21, "Of a BUFFER: 0 OFFERED, 1 FETCHED, 2 FINISHED, 3 REAPED, 4 DRAINED (what 0), 1 PARTS as told, 2 its HEAD (SPLIT), ID "
            + "(PACKED), 3 its INDIRECT TABLE (NONE), 4 CAPACITY, 5 LOAD (as FETCHED; NONE ahead of that), 6 written (NONE ahead of that, or in a "
            + "BATCH ahead of its last), 7 how many DESCRIPTORS of table 0 it has or had.", () -> {
                for (int format = 0; format <= 1; format++) {
                    RingMarks x = Due.ring(format, 8, 3);
                    Bench.direct(x, "r1w2w3");
                    Bench.indirect(x, "r4w5");
                    int head = format == 0 ? 3 : 1;
                    int table = format == 0 ? 1 : 2;
                    Due.same("offered", told(x, 0), "0 3 0 -1 -1 -1 -1 3");
                    Due.same("offered", told(x, 1), "0 2 " + head + " " + table + " -1 -1 -1 1");
                    Bench.fetchAll(x, 2);
                    Due.same("fetched", told(x, 0), "1 3 0 -1 5 1 -1 3");
                    Due.same("fetched", told(x, 1), "1 2 " + head + " " + table + " 5 4 -1 1");
                    x.batch(1, 2);
                    Due.same("finished ahead of the last", told(x, 0), "2 3 0 -1 5 1 -1 3");
                    Due.same("finished", told(x, 1), "2 2 " + head + " " + table + " 5 4 2 1");
                    x.reap();
                    Due.same("reaped", told(x, 0), "3 3 0 -1 5 1 -1 3");
                    x.reset();
                    Due.same("drained", told(x, 1), "4 2 " + head + " " + table + " 5 4 2 1");
                }
                RingMarks x = Bench.with(0, 4, 0, "r1w2", 0);
                x.spoil(0, 0, 1, 0);
                x.fetch();
                Due.same("parts as told, load as fetched", told(x, 0), "1 2 0 -1 0 1 -1 2");
            });
        Sentence.promise(21, "NONE, too: no such ones.", () -> {
            RingMarks x = Bench.with(0, 4, 0, "r1w2", 0);
            Due.is("no such buffer", x.buffer(1, 0) + x.buffer(-1, 0) + x.buffer(500, 0), -3);
            Due.is("no such what", x.buffer(0, 8) + x.buffer(0, -1), -2);
            for (int far : FAR) {
                Due.is("far off", x.buffer(far, 0) + x.buffer(0, far), -2);
            }
            x.setup(0, 4, 0);
            Due.is("a new ring has none", x.buffer(0, 0), -1);
        });
    }

    private static String told(RingMarks x, int b) {
        StringBuilder text = new StringBuilder();
        for (int what = 0; what < 8; what++) {
            text.append(what == 0 ? "" : " ").append(x.buffer(b, what));
        }
        return text.toString();
    }

    private static String marks(RingMarks x) {
        StringBuilder text = new StringBuilder();
        for (int what = 0; what <= 12; what++) {
            text.append(what == 0 ? "" : " ").append(x.now(what));
        }
        return text.toString();
    }

    private static void now() {
        Sentence.promise(22, "0 OFFERED, 1 SEEN, 2 USED, 3 TAKEN, 4 free DESCRIPTORS (places), 5 BUFFERS since setup(), 6 those that are not REAPED or "
            + "DRAINED, 7 BROKEN by (0: not), 8 KICKS sent, 9 SIGNALS sent, 10 the device's event, 11 the driver's, 12 b, up to which BUFFERS "
            + "are being REAPED by ORDER (NONE).", () -> {
                RingMarks x = Bench.packed(8, 5);
                Due.same("at first", marks(x), "0 0 0 0 8 0 0 0 0 0 0 0 -1");
                Bench.direct(x, "r1r1");
                Bench.direct(x, "w1w1");
                Bench.direct(x, "w1r1");
                Due.same("offered", marks(x), "6 0 0 0 2 3 3 0 0 0 0 0 -1");
                Bench.fetchAll(x, 2);
                x.batch(1, 1);
                x.kick();
                x.signal();
                x.event(1, 5);
                x.reap();
                x.event(0, 1);
                Due.same("being reaped", marks(x), "6 4 4 2 4 3 2 0 1 1 9 3 1");
                x.reap();
                x.fetch();
                Due.same("broken", marks(x), "6 4 4 4 6 3 1 6 1 1 9 3 -1");
                x.reset();
                Due.same("behind a reset", marks(x), "0 0 0 0 8 3 0 0 1 1 0 0 -1");
            });
        Sentence.promise(22, "NONE for another what.", () -> {
            RingMarks x = new RingMarks();
            Due.is("what", x.now(-1) + x.now(13), -2);
            for (int far : FAR) {
                Due.is("far off", x.now(far), -1);
            }
            for (int format = 0; format <= 1; format++) {
                x.setup(format, 8, 1);
                Bench.direct(x, "w9");
                Bench.direct(x, "w9");
                Bench.fetchAll(x, 2);
                x.batch(1, 7);
                x.kick();
                x.signal();
                x.hush(0, 1);
                x.hush(1, 1);
                x.reap();
                for (int what = 13; what < 40; what++) {
                    Due.is("in use, " + what, x.now(what), -1);
                    Due.is("in use, below 0", x.now(12 - what), -1);
                }
                x.reap();
                Due.is("behind a length", x.now(13), -1);
            }
        });
    }

    private static void walked() {
        Sentence.promise(23, "The latest fetch() that came to a WALK: its i-th act: 10 times the table, and 1: it was opened, 2: it was shut;", () -> {
            RingMarks x = Bench.split(8, 2);
            for (int t = 1; t <= 4; t++) {
                Bench.indirect(x, "r1");
            }
            for (int t = 1; t <= 4; t++) {
                x.fetch();
                Due.same("table " + t, Bench.acts(x), "1 " + t + "1 " + t + "2 2");
            }
            Due.is("none", x.fetch(), -1);
            Due.same("not by none", Bench.acts(x), "1 41 42 2");
            Bench.direct(x, "w1r1");
            x.fetch();
            Due.same("refused", Bench.acts(x), "1 2");
            x.reset();
            Bench.indirect(x, "r1");
            x.fetch();
            Bench.direct(x, "w1r1");
            x.fetch();
            Due.is("broken", x.fetch(), -2);
            Due.same("not by -2", Bench.acts(x), "1 2");
            x.reset();
            x.setup(1, 2, 0);
            Due.same("the latest", Bench.acts(x), "1 2");
        });
        Sentence.promise(23, "NONE: none such.", () -> {
            RingMarks x = Bench.split(8, 2);
            Due.is("ahead of any", x.walked(0), -1);
            Bench.indirect(x, "r1");
            x.fetch();
            Due.is("the last", x.walked(3), 2);
            Due.is("one more", x.walked(4), -1);
            Due.is("below 0", x.walked(-1), -1);
            for (int far : FAR) {
                Due.is("far off", x.walked(far), -1);
            }
            Bench.direct(x, "r1");
            x.fetch();
            Due.is("two alone", x.walked(1) * 10 + x.walked(2), 19);
        });
    }

    private static void chain() {
        Sentence.promise(24, "What a WALK from DESCRIPTOR i of table 0 on would come to: how many DESCRIPTORS in all (INDIRECT ones not counted); -10 less "
            + "the reason;", () -> {
                RingMarks x = Bench.split(8, 2);
                Bench.direct(x, "r1r1w1");
                Bench.indirect(x, "r1r1r1r1w1w1w1w1");
                Bench.direct(x, "w1r1");
                int[] due = {3, 2, 1, 8, -16, 1, 1, 1};
                for (int i = 0; i < 8; i++) {
                    Due.is("chain " + i, x.chain(i), due[i]);
                }
                Due.is("no such one", x.chain(8) + x.chain(-1), -22);
                for (int far : FAR) {
                    Due.is("far off", x.chain(far), -11);
                }
                x.spoil(0, 2, 1, 3);
                x.spoil(0, 2, 2, 0);
                Due.is("a loop", x.chain(0), -12);
                x.spoil(0, 7, 1, 4);
                Due.is("no table", x.chain(7), -15);
                x.spoil(0, 6, 1, 1);
                x.spoil(0, 6, 2, 7);
                Due.is("not the first", x.chain(6), -14);
                x = Bench.split(2, 0);
                x.spoil(0, 0, 1, 4);
                Due.is("no such feature", x.chain(0), -13);
                Due.is("no reason 7: no buffer has it", x.chain(1), 1);
            });
        Sentence.promise(24, "SPLIT alone (NONE for PACKED), nothing is changed, walked() too.", () -> {
            RingMarks x = Bench.split(8, 2);
            Bench.indirect(x, "r1");
            Bench.direct(x, "w1r1");
            Bench.direct(x, "w1");
            x.fetch();
            String before = marks(x) + Bench.table(x, 0) + Bench.buffers(x);
            Due.is("refused", x.chain(1), -16);
            Due.is("one", x.chain(3), 1);
            Due.same("nothing is changed", marks(x) + Bench.table(x, 0) + Bench.buffers(x), before);
            Due.same("walked() too", Bench.acts(x), "1 11 12 2");
            x.fetch();
            Due.is("of a broken device, too", x.chain(0), 1);
            x = Bench.packed(8, 2);
            Bench.direct(x, "r1");
            Due.is("packed", x.chain(0) + x.chain(9) + x.chain(-1), -3);
        });
    }

    private static void due() {
        Sentence.promise(25, "Whether a notice is due by an event, from old to new (each 0 to M - 1): 1, 0; NONE: not as told.", () -> {
            for (int r = 0; r < 6; r++) {
                RingMarks x = Due.ring(r / 3, 2 << r % 3, r % 2 == 0 ? 0 : 4);
                int m = r < 3 ? 16 : 4 << r % 3;
                Due.is("the last one is passed", x.due(m - 1, m - 1, 0), 1);
                Due.is("0 is not", x.due(0, m - 1, 0), 0);
                Due.is("the most", x.due(0, 0, m - 1), 1);
                Due.is("alike", x.due(m - 1, m - 1, m - 1), 0);
                Due.is("M", x.due(m, 0, 0) + x.due(0, m, 0) + x.due(0, 0, m), -3);
                Due.is("below 0", x.due(-1, 0, 0) + x.due(0, -1, 0) + x.due(0, 0, -1), -3);
                for (int far : FAR) {
                    Due.is("far off", x.due(far, 0, 0) + x.due(0, far, 0) + x.due(0, 0, far), -3);
                }
                Due.is("nothing is sent by it", x.now(8) + x.now(9), 0);
            }
        });
    }

    /** The draws of a seed, as the document words them, in numbers that do not wrap by themselves. */
    private static int[] drawsOf(int seed, int... of) {
        long x = seed;
        int[] drawn = new int[of.length];
        for (int k = 0; k < of.length; k++) {
            x = Math.floorMod(x * 1103515245L + 12345L, 1L << 32);
            drawn[k] = (int) ((x >> 8) % of[k]);
        }
        return drawn;
    }

    /** The least seed from a start on whose first draws are these. */
    private static int seedFor(int start, int[] of, int... want) {
        for (int seed = start; seed < start + 1000000; seed++) {
            int[] drawn = drawsOf(seed, of);
            boolean alike = true;
            for (int k = 0; k < want.length; k++) {
                alike &= drawn[k] == want[k];
            }
            if (alike) {
                return seed;
            }
        }
        throw new IllegalStateException("no such seed");
    }

    private static void draws() {
        Sentence.term(4, "DRAWN by a seed x: for each draw of n x becomes x * 1103515245 + 12345 (an int, wrapping), the draw is (x >>> 8) % n:", () -> {
            for (int start : new int[] {Integer.MIN_VALUE, -500000, 0, Integer.MAX_VALUE - 1100000}) {
                for (int reads = 0; reads < 3; reads++) {
                    for (int writes = 0; writes < 2; writes++) {
                        RingMarks x = Bench.split(8, 0);
                        int seed = seedFor(start, new int[] {8, 3, 2}, 0, reads, writes);
                        Due.is("seed " + seed, x.drawn(1, seed), 1);
                        Due.is("parts", x.buffer(0, 1), reads + 1 + writes);
                    }
                }
            }
        });
    }

    private static void deeds() {
        Sentence.term(4, "each DEED: a draw of 8: 0, 1: a CHAIN of a draw of 3 and 1 PARTS 'r' 4, then a draw of 2 PARTS 'w' 9 is OFFERED, direct;", () -> {
            for (int deed = 0; deed <= 1; deed++) {
                RingMarks x = Bench.split(4, 2);
                x.drawn(1, seedFor(0, new int[] {8, 3, 2}, deed, 2, 1));
                Due.same("r4 r4 r4 w9", Bench.table(x, 0), "4/1/1 4/1/2 4/1/3 9/2/0");
                Due.is("direct", x.buffer(0, 3), -1);
                x = Bench.split(4, 2);
                x.drawn(1, seedFor(0, new int[] {8, 3, 2}, deed, 0, 0));
                Due.same("r4", Bench.table(x, 0), "4/0/0 0/0/0 0/0/0 0/0/0");
            }
        });
        Sentence.term(4, "2, 3: FETCH; 4, 5: the first BUFFER that is FETCHED and not FINISHED is FINISHED with a draw of 10 (without one there is no such "
            + "draw);", () -> {
                for (int deed = 2; deed <= 3; deed++) {
                    RingMarks x = Bench.with(0, 4, 0, "w9", 0);
                    Due.is("fetch", x.drawn(1, seedFor(0, new int[] {8}, deed)), 1);
                    Due.same("fetched", Bench.buffers(x), "1");
                }
                for (int deed = 4; deed <= 5; deed++) {
                    for (int n = 0; n <= 9; n++) {
                        RingMarks x = Bench.split(4, 0);
                        Bench.direct(x, "w9");
                        Bench.direct(x, "w9");
                        Bench.fetchAll(x, 2);
                        Due.is("finish", x.drawn(1, seedFor(0, new int[] {8, 10}, deed, n)), 1);
                        Due.same("the first", Bench.buffers(x), "21");
                        Due.is("with a draw of 10", x.buffer(0, 6), n);
                    }
                    // Without one the next draw is that of the next deed; with one it would be another.
                    int seed = seedFor(0, new int[] {8, 8, 3, 2}, deed, 0, 0, 0);
                    RingMarks x = Bench.split(4, 0);
                    Due.is("no such draw", x.drawn(2, seed), 1);
                    Due.is("no such draw", x.now(5), 1);
                }
            });
        Sentence.term(4, "6: REAP; 7: KICK, then SIGNAL", () -> {
            RingMarks x = Bench.with(0, 4, 0, "w9", 0);
            x.fetch();
            x.finish(0, 5);
            Due.is("kick and signal", x.drawn(1, seedFor(0, new int[] {8}, 7)), 1);
            Due.is("both are sent", x.now(8) * 10 + x.now(9), 11);
            Due.is("neither is due", x.drawn(1, seedFor(0, new int[] {8}, 7)), 0);
            Due.is("reap", x.drawn(1, seedFor(0, new int[] {8}, 6)), 1);
            Due.same("reaped", Bench.buffers(x), "3");
        });
        Sentence.term(4, "(each, if it can be; done is what was OFFERED, FETCHED, FINISHED, REAPED, or if one of both is due).", () -> {
            RingMarks x = Bench.split(2, 0);
            Due.is("too many parts", x.drawn(1, seedFor(0, new int[] {8, 3, 2}, 0, 2, 0)), 0);
            for (int deed = 2; deed <= 7; deed++) {
                Due.is("nothing to do by " + deed, x.drawn(1, seedFor(0, new int[] {8}, deed)), 0);
            }
            Due.same("nothing is done", marks(x), "0 0 0 0 2 0 0 0 0 0 0 0 -1");
            Bench.direct(x, "r1");
            x.fetch();
            Due.is("1 is more than its capacity", x.drawn(1, seedFor(0, new int[] {8, 10}, 4, 1)), 0);
            Due.is("a kick alone", x.drawn(1, seedFor(0, new int[] {8}, 7)), 1);
            Due.is("0 is not", x.drawn(1, seedFor(0, new int[] {8, 10}, 4, 0)), 1);
            Due.is("a signal alone", x.drawn(1, seedFor(0, new int[] {8}, 7)), 1);
            Due.is("one each", x.now(8) * 10 + x.now(9), 11);
            x = Bench.with(0, 4, 0, "w1r1", 0);
            Due.is("refused", x.drawn(1, seedFor(0, new int[] {8}, 2)), 0);
            Due.is("broken", x.now(7), 6);
            Due.is("offer", x.drawn(1, seedFor(0, new int[] {8, 3, 2}, 0, 0, 0)), 0);
            Due.is("fetch", x.drawn(1, seedFor(0, new int[] {8}, 2)), 0);
            x = Bench.packed(4, 0);
            x.spoil(0, 0, 1, 24);
            Due.is("lost", x.drawn(1, seedFor(0, new int[] {8}, 6)), 0);
        });
    }

    private static void drawn() {
        Sentence.promise(34, "n (1 to 60) DEEDS DRAWN by a seed: how many were done; NONE: not as told.", () -> {
            RingMarks x = new RingMarks();
            for (int n : new int[] {0, -1, 61, Integer.MIN_VALUE, Integer.MAX_VALUE}) {
                Due.is("n " + n, x.drawn(n, 7), -1);
            }
            Due.same("nothing is done", marks(x), "0 0 0 0 4 0 0 0 0 0 0 0 -1");
            for (int n : new int[] {1, 2, 59, 60}) {
                for (int seed = 100; seed < 140; seed++) {
                    for (int format = 0; format <= 1; format++) {
                        RingMarks drawn = Due.ring(format, 8, 0);
                        RingMarks called = Due.ring(format, 8, 0);
                        Due.is("done of " + n, drawn.drawn(n, seed), DrawnTest.replay(called, n, seed));
                        Due.same("just " + n, marks(drawn) + Bench.buffers(drawn), marks(called) + Bench.buffers(called));
                    }
                }
            }
            x = new RingMarks();
            Due.is("20 by 7", x.drawn(20, 7), 5);
            x.feed(1, 2, 3, 4, 5);
            Due.is("30 by 9", x.drawn(30, 9), 5);
            Due.is("the tape stays", x.count(4), 20);
            Due.is("any seed", x.drawn(60, Integer.MIN_VALUE) >= 0 && x.drawn(60, Integer.MAX_VALUE) >= 0, true);
        });
    }

    private static void images() {
        Sentence.promise(35, "The RING with all that is in it (BUFFERS, tables) is kept in place k (0, 1): true; false: no such one.", () -> {
            RingMarks x = new RingMarks();
            Due.is("0 and 1", x.image(0) && x.image(1), true);
            Due.is("no such one", x.image(2) || x.image(-1), false);
            for (int far : FAR) {
                Due.is("far off", x.image(far), false);
            }
            for (int k = 0; k <= 1; k++) {
                x = full();
                String before = all(x);
                Due.is("kept", x.image(k), true);
                Due.same("nothing changes by it", all(x), before);
                spend(x);
                Due.is("anew, elsewhere", x.image(1 - k), true);
                Due.is("it comes back", x.restore(k), true);
                Due.same("all of it", all(x), before);
                x.setup(0, 2, 0);
                Due.is("it comes back behind setup(), too", x.restore(k), true);
                Due.same("all of it", all(x), before);
                goOn(x);
            }
        });
        Sentence.promise(35, "(BUFFERS, tables)", () -> {
            RingMarks many = Bench.split(2, 0);
            for (int k = 0; k < 12; k++) {
                Bench.round(many, k % 2 == 0 ? "r1" : "r1w2");
            }
            Bench.direct(many, "r1r1");
            String kept = all(many);
            many.image(0);
            many.setup(0, 8, 2);
            for (int k = 0; k < 12; k++) {
                Bench.round(many, "w7w7w7");
            }
            many.restore(0);
            Due.same("all buffers", all(many), kept);
            Due.is("it goes on", many.fetch(), 12);
            for (int format = 0; format <= 1; format++) {
                RingMarks x = Due.ring(format, 4, 2);
                x.image(0);
                Bench.indirect(x, "r1r2");
                x.image(1);
                Due.is("nothing is had in the one", x.restore(0), true);
                Due.is("table 1 was not laid", x.table(1), 0);
                Due.is("offer", Bench.indirect(x, "r3"), 0);
                Due.is("table 1 is free", x.buffer(0, 3) * 10 + x.table(1), 11);
                x.reset();
                Due.is("table 1 is had in the other", x.restore(1), true);
                Due.same("as kept", Bench.table(x, 1), "1/1/1 2/0/0");
                Due.is("offer", Bench.indirect(x, "r3"), 1);
                Due.is("table 2, the second descriptor or ID", x.buffer(1, 3) * 10 + x.buffer(1, 2), 21);
                Due.is("fetch", x.fetch(), 0);
                Due.is("its own table", x.buffer(0, 5), 3);
            }
        });
        Sentence.promise(36, "It is as kept in place k (the tape, DRIVER and DEVICE, what other calls told last stay): true;", () -> {
            RingMarks x = Bench.split(4, 2);
            x.image(0);
            Bench.direct(x, "w9");
            x.image(1);
            x.fetch();
            x.finish(0, 7);
            x.reap();
            Bench.indirect(x, "w9");
            x.fetch();
            x.reset();
            Due.steps(x, "add;add;", 0);
            Due.steps(x, "drain;", 1);
            Due.steps(x, "add;", 0);
            Due.steps(x, "", 1);
            x.missed();
            Due.feed(x, new byte[] {0});
            x.play();
            x.feed(1, 2, 3, 4, 5);
            Due.is("restore", x.restore(0), true);
            Due.is("as kept", x.now(5), 0);
            Due.is("restore", x.restore(1), true);
            Due.is("as kept", x.now(5) * 10 + x.now(0), 11);
            Due.is("the tape", x.count(4), 20);
            Due.is("driver, device", x.count(5) * 10 + x.count(6), 10);
            Due.is("length()", x.length(), 7);
            Due.same("walked()", Bench.acts(x), "1 11 12 2");
            Due.same("drained()", Bench.drained(x), "1");
            Due.is("missedBy()", x.missedBy(0), 0);
            Due.is("played()", x.played(2), 1);
            Due.is("twice", x.restore(1) && x.restore(1), true);
        });
        Sentence.promise(36, "false: no such one, or nothing is kept there.", () -> {
            RingMarks x = Bench.with(0, 4, 0, "r1", 0);
            Due.is("nothing is kept", x.restore(0) || x.restore(1), false);
            x.image(1);
            Due.is("nothing is kept there", x.restore(0), false);
            x.reset();
            Due.is("no such one", x.restore(2) || x.restore(-1), false);
            for (int far : FAR) {
                Due.is("far off", x.restore(far), false);
            }
            Due.same("all stays", Bench.buffers(x), "4");
            Due.is("kept", x.restore(1), true);
            Due.same("as kept", Bench.buffers(x), "0");
        });
    }

    /** A ring with something of all that there is: also a batch half reaped, notices, events, a hush. */
    private static RingMarks full() {
        RingMarks x = Bench.split(8, 3);
        Bench.indirect(x, "r1w9");
        Bench.direct(x, "w9");
        Bench.direct(x, "w9w9");
        Bench.direct(x, "r1");
        Bench.fetchAll(x, 3);
        x.batch(1, 4);
        x.reap();
        x.kick();
        x.signal();
        x.event(0, 5);
        x.event(1, 6);
        x.hush(0, 1);
        x.hush(1, 1);
        return x;
    }

    private static String all(RingMarks x) {
        StringBuilder text = new StringBuilder(marks(x)).append(' ').append(Bench.buffers(x));
        for (int t = 0; t <= 4; t++) {
            text.append(" / ").append(Bench.table(x, t));
        }
        for (int what = 0; what <= 2; what++) {
            text.append(" / ").append(Bench.row(x, what)).append(" ").append(x.count(what));
        }
        for (int b = 0; b < x.now(5); b++) {
            text.append(" / ").append(told(x, b));
        }
        return text.toString();
    }

    private static void spend(RingMarks x) {
        x.reap();
        x.finish(2, 1);
        x.fetch();
        x.hush(0, 0);
        x.hush(1, 0);
        Bench.indirect(x, "w1w2w3");
        Bench.indirect(x, "w1w2w3");
        x.spoil(1, 0, 0, 777);
        x.reset();
        Bench.direct(x, "r7r7r7r7");
        x.kick();
    }

    /** What can't be asked for by a number: the length of the batch, the latest notices, the hushes. */
    private static void goOn(RingMarks x) {
        Due.is("the batch goes on", x.reap(), 1);
        Due.is("its length", x.length(), 4);
        Due.is("the first one", x.finish(2, 1), 0);
        Due.is("hushed", x.signal(), 0);
        Bench.direct(x, "r1");
        Due.is("hushed", x.kick(), 0);
        x.hush(0, 0);
        x.hush(1, 0);
        Due.is("the latest notices", x.kick() + x.signal(), 0);
        Due.is("the next one", x.fetch(), 3);
        Due.is("table 1 is free", Bench.indirect(x, "r1"), 5);
        Due.is("table 1 is free", x.buffer(5, 3), 1);
    }

    private static void count() {
        Sentence.promise(37, "0 SPLIT, 1 PACKED (what 0), 1 places, 2 FEATURES, 3 M, 4 bytes of the tape, 5, 6 STEPS of the DRIVER, the DEVICE.", () -> {
            for (int format = 0; format <= 1; format++) {
                for (int n = 2; n <= 8; n *= 2) {
                    for (int features = 0; features <= 7; features++) {
                        RingMarks x = Due.ring(format, n, features);
                        Due.is("format", x.count(0), format);
                        Due.is("places", x.count(1), n);
                        Due.is("features", x.count(2), features);
                        Due.is("M", x.count(3), format == 0 ? 16 : n + n);
                    }
                }
            }
            RingMarks x = new RingMarks();
            Due.steps(x, "kick;kick;kick;kick;kick;kick;kick;kick;", 0);
            Due.steps(x, "arm;arm;arm;arm;arm;", 1);
            x.feed(0, 0, 0, 0, 0);
            x.end(13);
            Due.is("tape", x.count(4), 13);
            Due.is("steps", x.count(5) * 10 + x.count(6), 85);
            x.setup(1, 2, 0);
            Due.is("they stay", x.count(4) * 100 + x.count(5) * 10 + x.count(6), 1385);
        });
        Sentence.promise(37, "NONE for another what.", () -> {
            RingMarks x = new RingMarks();
            Due.is("what", x.count(-1) + x.count(7), -2);
            for (int far : FAR) {
                Due.is("far off", x.count(far), -1);
            }
        });
    }
}
