/** Part 1 of "Terms": rings, positions, descriptors, chains, and how they are offered. */
final class OfferSentences {
    private OfferSentences() {
    }

    static void tell() {
        rings();
        descriptors();
        chains();
        offers();
        packedOffers();
        numbers();
    }

    private static void rings() {
        Sentence.term(1, "A RING is SPLIT or PACKED, of N places (2, 4, 8), with FEATURES: ORDER (1), INDIRECT (2), EVENT (4).", () -> {
            for (int format = 0; format <= 1; format++) {
                for (int n = 2; n <= 8; n *= 2) {
                    for (int features = 0; features <= 7; features++) {
                        filled(format, n, features);
                    }
                }
            }
        });
        Sentence.term(1, "POSITIONS are numbers from 0 on that wrap at M: SPLIT 16, PACKED 2 N.", () -> {
            for (int r = 0; r < 6; r++) {
                int n = 2 << r % 3;
                RingMarks x = Due.ring(r / 3, n, 0);
                int m = r < 3 ? 16 : 2 * n;
                for (int k = 1; k <= m + 2; k++) {
                    Bench.rounds(x, 1);
                    int p = k == m ? 0 : k > m ? k - m : k;
                    Due.same("positions behind " + k, Bench.positions(x), p + " " + p + " " + p + " " + p);
                }
            }
        });
        Sentence.term(1, "Four POSITIONS: OFFERED (the driver's next), SEEN (the device's next of these), USED (the device's next), "
            + "TAKEN (the driver's next of these).", () -> {
                RingMarks x = Bench.with(0, 4, 0, "r1", 0);
                Due.same("offered", Bench.positions(x), "1 0 0 0");
                x.fetch();
                Due.same("fetched", Bench.positions(x), "1 1 0 0");
                x.finish(0, 0);
                Due.same("finished", Bench.positions(x), "1 1 1 0");
                x.reap();
                Due.same("reaped", Bench.positions(x), "1 1 1 1");
            });
        Sentence.term(1, "SPLIT: each BUFFER moves them by 1, PACKED: by as many places as it has.", () -> {
            RingMarks x = Bench.split(8, 2);
            Bench.round(x, "r1r1w1");
            Due.same("split", Bench.positions(x), "1 1 1 1");
            x = Bench.packed(8, 2);
            Bench.round(x, "r1r1w1");
            Due.same("packed", Bench.positions(x), "3 3 3 3");
            Bench.round(x, "r1r1r1r1r1r1r1w1");
            Due.same("all places", Bench.positions(x), "11 11 11 11");
            Due.is("indirect", Bench.indirect(x, "r1r1r1w1"), 2);
            Due.same("an indirect one has one place", Bench.positions(x), "12 11 11 11");
        });
        places();
    }

    /** As many as there are places, not one more; and what each feature is for. */
    private static void filled(int format, int n, int features) {
        String told = "setup(" + format + ", " + n + ", " + features + ") ";
        RingMarks x = Due.ring(format, n, features);
        boolean order = (features & 1) != 0;
        boolean indirect = (features & 2) != 0;
        boolean event = (features & 4) != 0;
        Due.is(told + "INDIRECT", Bench.indirect(x, "r1"), indirect ? 0 : -4);
        for (int k = indirect ? 1 : 0; k < n; k++) {
            Due.is(told + "offer", Bench.direct(x, "r1"), k);
        }
        Due.is(told + "full", Bench.direct(x, "r1"), -5);
        Due.is(told + "no place is free", x.now(4), 0);
        x.hush(1, 1);
        Due.is(told + "EVENT", x.kick(), event ? 1 : 0);
        x.fetch();
        x.fetch();
        Due.is(told + "ORDER", x.batch(1, 0), order ? 2 : -3);
        Due.is(told + "ORDER", x.finish(0, 0), order ? -1 : 0);
    }

    private static void places() {
        Sentence.term(1, "A POSITION p is the place p % N;", () -> {
            RingMarks x = Bench.split(8, 0);
            Bench.rounds(x, 7);
            Due.same("row", Bench.row(x, 0), "0 0 0 0 0 0 0 -1");
            Bench.rounds(x, 1);
            // This one keeps descriptor 0, so later heads are 1: each can be told from what stood there.
            Bench.direct(x, "r1");
            x.fetch();
            Bench.rounds(x, 7);
            Due.same("positions 9 to 15", Bench.row(x, 0), "0 1 1 1 1 1 1 1");
            Due.is("wrapped", x.now(0), 0);
            Bench.rounds(x, 1);
            Due.same("position 0 again", Bench.row(x, 0), "1 1 1 1 1 1 1 1");
            RingMarks y = Bench.packed(4, 0);
            for (int p = 0; p < 10; p++) {
                Due.is("offer", Bench.direct(y, "r" + (p + 1)), p);
                Due.is("packed place of " + p, y.descriptor(0, p % 4, 0), p + 1);
                y.fetch();
                y.finish(p, 0);
                y.reap();
            }
        });
        Sentence.term(1, "PACKED: its WRAP is 1, if p is below N, else 0.", () -> {
            for (int n = 2; n <= 8; n *= 2) {
                RingMarks x = Bench.packed(n, 0);
                for (int p = 0; p <= 2 * n; p++) {
                    int b = Bench.direct(x, "r1");
                    boolean first = p < n || p == 2 * n;
                    Due.is("offered at " + p + " of " + n, x.descriptor(0, p % n, 1), first ? 8 : 16);
                    x.fetch();
                    x.finish(b, 0);
                    Due.is("used at " + p + " of " + n, x.descriptor(0, p % n, 1), first ? 24 : 0);
                    x.reap();
                }
            }
        });
    }

    private static void descriptors() {
        Sentence.term(1, "A DESCRIPTOR has LEN, FLAGS (1 NEXT, 2 WRITE, 4 INDIRECT; PACKED ones besides 8 AVAIL, 16 DONE) and LINK "
            + "(SPLIT: the next one; PACKED: the ID).", () -> {
                RingMarks x = Bench.split(4, 2);
                Bench.direct(x, "r5w6w7");
                Bench.indirect(x, "r8w9");
                Due.same("split", Bench.table(x, 0), "5/1/1 6/3/2 7/2/0 2/4/1");
                x = Bench.packed(4, 2);
                Bench.direct(x, "r5w6w7");
                Bench.indirect(x, "r8w9");
                Due.same("packed", Bench.table(x, 0), "5/9/0 6/11/0 7/10/0 2/12/1");
                x.fetch();
                x.finish(0, 13);
                Due.same("used", Bench.descriptor(x, 0, 0), "13/24/0");
            });
        Sentence.term(1, "Table 0 has N of them: the DESCRIPTORS, or PACKED places; all 0 at first.", () -> {
            for (int r = 0; r < 6; r++) {
                int n = 2 << r % 3;
                RingMarks x = Due.ring(r / 3, n, 0);
                Due.is("as many", x.table(0), n);
                for (int what = 0; what < 3; what++) {
                    for (int i = 0; i < n; i++) {
                        Due.is("0 at first", x.descriptor(0, i, what), 0);
                    }
                    Due.is("one too many", x.descriptor(0, n, what), -1);
                    Due.is("below 0", x.descriptor(0, -1, what), -1);
                }
            }
        });
        Sentence.term(1, "Four INDIRECT TABLES, 1 to 4, have 0 to 8 each.", () -> {
            for (int format = 0; format <= 1; format++) {
                RingMarks x = Due.ring(format, 8, 2);
                for (int t = 1; t <= 4; t++) {
                    Due.is("none at first", x.table(t), 0);
                    Due.is("none at first", x.descriptor(t, 0, 0), -1);
                    Due.is("offer", Bench.indirect(x, "r1r2r3r4w5w6w7w8"), t - 1);
                    Due.is("eight", x.table(t), 8);
                    Due.is("the eighth", x.descriptor(t, 7, 0), 8);
                    Due.is("no ninth", x.descriptor(t, 8, 0), -1);
                }
                Due.is("no fifth", x.table(5), -1);
                Due.is("no fifth is free", Bench.indirect(x, "r1"), -6);
            }
        });
    }

    private static void faultOf(String text, int place) {
        RingMarks x = Bench.split(8, 0);
        Due.is("fault of '" + text + "'", Bench.direct(x, text), -1000 - place);
        Due.is("nothing is offered by '" + text + "'", x.now(5) + x.now(0), 0);
    }

    private static void readAs(String text, String table) {
        RingMarks x = Bench.split(8, 0);
        Due.is("chain '" + text + "'", Bench.direct(x, text), 0);
        String zeros = " 0/0/0".repeat(8);
        Due.same("chain '" + text + "'", Bench.table(x, 0), (table + zeros).substring(0, table.length() + zeros.length()
            - 6 * table.split(" ").length));
    }

    private static void chains() {
        Sentence.term(1, "A CHAIN is a text of up to 60 bytes:", () -> {
            readAs("r" + "0".repeat(58) + "7", "7/0/0");
            faultOf("r" + "0".repeat(59) + "7", 60);
            faultOf("x" + "0".repeat(60), 60);
            faultOf("x" + "0".repeat(59), 0);
            faultOf("r" + "0".repeat(99), 60);
        });
        Sentence.term(1, "1 to 8 PARTS, each 'r' or 'w'", () -> {
            faultOf("", 0);
            readAs("r1", "1/0/0");
            readAs("w1", "1/2/0");
            readAs("r1w2r3w4r5w6r7w8", "1/1/1 2/3/2 3/1/3 4/3/4 5/1/5 6/3/6 7/1/7 8/2/0");
            faultOf("r1w2r3w4r5w6r7w8w9", 16);
            faultOf("r1w2r3w4r5w6r7w8  w9", 18);
            for (String other : new String[] {"q", "s", "v", "x", "R", "W", "1", "\0", "\u00f2", "\u00f7"}) {
                faultOf(other + "1", 0);
                faultOf("r1" + (other.equals("1") ? " 1" : other), other.equals("1") ? 3 : 2);
            }
        });
        Sentence.term(1, "and its length (0 to 999; digits, as many as stand there),", () -> {
            readAs("r0", "0/0/0");
            readAs("w999", "999/2/0");
            faultOf("r1000", 1);
            faultOf("r9990", 1);
            readAs("r0000999", "999/0/0");
            faultOf("r00001000", 1);
            faultOf("r4294967297", 1);
            faultOf("r18446744073709551617", 1);
            faultOf("r", 1);
            faultOf("rw1", 1);
            faultOf("r/", 1);
            faultOf("r:", 1);
            faultOf("r-1", 1);
            faultOf("r5/", 2);
            faultOf("r5:", 2);
            faultOf("r5 6", 3);
        });
        Sentence.term(1, "blanks (32) between all these or not.", () -> {
            readAs("r5w7", "5/1/1 7/2/0");
            readAs("r 5 w 7", "5/1/1 7/2/0");
            readAs("r    5    w    7", "5/1/1 7/2/0");
            for (char c : new char[] {0, 9, 10, 13, 31, 33, 160}) {
                faultOf("r" + c + "5", 1);
                faultOf("r5" + c + "w7", 2);
            }
        });
    }

    private static void offers() {
        Sentence.term(1, "To OFFER it: direct: a DESCRIPTOR for each PART: LEN, WRITE for 'w'; NEXT for all but the last;", () -> {
            readAs("r9", "9/0/0");
            readAs("w9", "9/2/0");
            readAs("r9w8", "9/1/1 8/2/0");
            readAs("w9r8", "9/3/1 8/0/0");
            RingMarks x = Bench.with(1, 4, 0, "w9w8r7", 0);
            Due.same("packed", Bench.table(x, 0), "9/11/0 8/11/0 7/8/0 0/0/0");
        });
        Sentence.term(1, "indirect: so in the least INDIRECT TABLE that no BUFFER has (LINK: the place of the next one in it, 0 the last), "
            + "and one DESCRIPTOR in table 0: INDIRECT, LEN how many PARTS, its LINK the number of that table (SPLIT; PACKED: its ID; "
            + "the place of it is that of table 1 and the ID: see below).", () -> {
                RingMarks x = Bench.split(8, 2);
                Bench.indirect(x, "r1w2w3");
                Bench.indirect(x, "w4");
                Bench.indirect(x, "r5");
                Due.same("table 1", Bench.table(x, 1), "1/1/1 2/3/2 3/2/0");
                Due.same("table 2", Bench.table(x, 2), "4/2/0");
                Due.same("table 0", Bench.table(x, 0), "3/4/1 1/4/2 1/4/3" + " 0/0/0".repeat(5));
                Bench.fetchAll(x, 3);
                x.finish(2, 0);
                x.finish(1, 0);
                x.reap();
                x.reap();
                Bench.indirect(x, "r6r7");
                Due.is("the least that is free", x.buffer(3, 3), 2);
                Due.same("laid anew", Bench.table(x, 2), "6/1/1 7/0/0");
                Due.same("it stays", Bench.table(x, 3), "5/0/0");
                x = Bench.packed(8, 2);
                Bench.direct(x, "r1");
                Bench.indirect(x, "r1w2w3");
                Due.same("packed", Bench.descriptor(x, 0, 1), "3/12/1");
                Due.same("packed, no marks in it", Bench.table(x, 2), "1/1/1 2/3/2 3/2/0");
            });
        Sentence.term(1, "SPLIT: it has the least DESCRIPTORS that no BUFFER has, in order; LINK of each is the next one, of the last 0 "
            + "(so that of the indirect one is the table); its HEAD, the first, comes into the row of what is OFFERED, at the place of "
            + "OFFERED.", OfferSentences::scattered);
    }

    private static void scattered() {
        RingMarks x = Bench.split(8, 2);
        for (int k = 0; k < 8; k++) {
            Bench.direct(x, "r" + k);
        }
        Bench.fetchAll(x, 8);
        int[] freed = {6, 1, 4};
        for (int b : freed) {
            x.finish(b, 0);
            Due.is("reap", x.reap(), b);
        }
        Due.is("three are free, not four", Bench.direct(x, "r1r1r1r1"), -5);
        Due.is("three", Bench.direct(x, "r9w8w7"), 8);
        Due.same("the least, in order", Bench.table(x, 0), "0/0/0 9/1/4 2/0/0 3/0/0 8/3/6 5/0/0 7/2/0 7/0/0");
        Due.is("head", x.buffer(8, 2), 1);
        Due.same("row", Bench.row(x, 0), "1 1 2 3 4 5 6 7");
        x.finish(7, 0);
        x.reap();
        Due.is("indirect", Bench.indirect(x, "r1r1"), 9);
        Due.same("its link is the table", Bench.descriptor(x, 0, 7), "2/4/1");
        Due.same("row", Bench.row(x, 0), "1 7 2 3 4 5 6 7");
    }

    private static void packedOffers() {
        Sentence.term(1, "PACKED: it has the places from OFFERED on (those beyond N - 1 from 0 on: a WRAP each by its own POSITION); its ID, "
            + "the least that no BUFFER has, is the LINK of each of its places; AVAIL is the WRAP, DONE is not.", () -> {
                RingMarks x = Bench.packed(4, 0);
                Bench.direct(x, "r1");
                Bench.direct(x, "r2");
                Bench.direct(x, "r3");
                Bench.fetchAll(x, 3);
                x.finish(1, 0);
                x.finish(0, 0);
                Due.is("reap", x.reap(), 1);
                Due.is("reap", x.reap(), 0);
                Due.is("three places are free", Bench.direct(x, "r5r5r5r5"), -5);
                Due.is("round the end", Bench.direct(x, "r6w7w8"), 3);
                Due.is("the least ID", x.buffer(3, 2), 0);
                Due.same("a wrap each", Bench.table(x, 0), "7/19/0 8/18/0 3/8/2 6/9/0");
                Due.is("OFFERED", x.now(0), 6);
                Due.is("fetch goes round, too", x.fetch(), 3);
                x.finish(3, 0);
                x.finish(2, 0);
                x.reap();
                x.reap();
                Due.is("at the places 2 to 1", Bench.direct(x, "r1r2r3r4"), 4);
                Due.same("0 and then 1", Bench.table(x, 0), "3/9/0 4/8/0 1/17/0 2/17/0");
                Due.is("OFFERED wraps", x.now(0), 2);
            });
        Sentence.term(1, "An indirect BUFFER of a PACKED ring has table ID % 4 and 1.", () -> {
            RingMarks x = Bench.packed(8, 2);
            for (int id = 0; id < 4; id++) {
                Bench.direct(x, "r1");
            }
            for (int id = 4; id < 8; id++) {
                Due.is("offer", Bench.indirect(x, "w" + id), id);
                Due.is("ID", x.buffer(id, 2), id);
                Due.is("table of ID " + id, x.buffer(id, 3), id - 3);
                Due.is("laid there", x.descriptor(id - 3, 0, 0), id);
            }
            Bench.fetchAll(x, 5);
            Due.same("walked there", Bench.acts(x), "1 11 12 2");
            Due.is("capacity", x.buffer(4, 4), 4);
        });
        Sentence.term(1, "Then OFFERED goes on.", () -> {
            RingMarks x = Bench.packed(4, 2);
            Bench.direct(x, "r1r1");
            Due.is("two places", x.now(0), 2);
            Bench.indirect(x, "r1r1r1");
            Due.is("one place", x.now(0), 3);
            Due.is("refused", Bench.direct(x, "r1r1"), -5);
            Due.is("not by a refused one", x.now(0), 3);
        });
    }

    private static void numbers() {
        Sentence.term(1, "BUFFERS are numbered from 0 as they were OFFERED since setup(); of several the first one is that of the least "
            + "number, up to one are those of no greater one.", () -> {
                RingMarks x = Bench.split(4, 1);
                Due.is("from 0", Bench.direct(x, "w9"), 0);
                Due.is("a fault takes no number", Bench.direct(x, "x"), -1000);
                Due.is("too many take no number", Bench.direct(x, "r1r1r1r1"), -5);
                Due.is("on", Bench.direct(x, "w9"), 1);
                Due.is("on", Bench.direct(x, "w9"), 2);
                Bench.fetchAll(x, 3);
                Due.is("the first is 0", x.finish(1, 0), -3);
                Due.is("up to 1 are two", x.batch(1, 0), 2);
                Due.same("not the greater one", Bench.buffers(x), "221");
                x.reset();
                Due.is("on behind a reset", Bench.direct(x, "w9"), 3);
                x.setup(0, 4, 0);
                Due.is("from 0 again", Bench.direct(x, "w9"), 0);
                Due.is("one alone", x.now(5), 1);
            });
    }
}
