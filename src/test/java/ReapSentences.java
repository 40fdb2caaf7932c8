/** Part 2 of "Terms", from what is fetched on: finish, batch, reap, notices, reset. */
final class ReapSentences {
    private static final int BOTH = 24;

    private ReapSentences() {
    }

    static void tell() {
        finishes();
        batches();
        whatIsThere();
        lost();
        reaps();
        inOrder();
        frees();
        notices();
        resets();
    }

    private static RingMarks withFetched(int format, int places, int features, String... texts) {
        RingMarks x = Due.ring(format, places, features);
        for (String text : texts) {
            Bench.direct(x, text);
            x.fetch();
        }
        return x;
    }

    private static void finishes() {
        Sentence.term(2, "To FINISH a BUFFER that was FETCHED with n written: n is not more than CAPACITY; ORDER: it is the first of those "
            + "FETCHED and not FINISHED.", () -> {
                for (int format = 0; format <= 1; format++) {
                    RingMarks x = withFetched(format, 4, 0, "w5", "w0", "r9");
                    Due.is("one too many", x.finish(0, 6), -2);
                    Due.is("of none", x.finish(1, 1), -2);
                    Due.is("what is read is none", x.finish(2, 1), -2);
                    Due.same("nothing came", Bench.positions(x), "3 3 0 0");
                    Due.is("none of none", x.finish(2, 0), 0);
                    Due.is("all of it", x.finish(0, 5), 0);
                    Due.is("in any order", x.finish(1, 0), 0);
                    x = withFetched(format, 4, 1, "w5", "w5", "w5");
                    Due.is("another is first", x.finish(1, 0), -3);
                    Due.is("another is first", x.finish(2, 0), -3);
                    Due.is("the first", x.finish(0, 5), 0);
                    Due.is("another is first", x.finish(2, 0), -3);
                    Due.is("the first now", x.finish(1, 5), 0);
                    Due.is("the last", x.finish(2, 5), 0);
                }
            });
        Sentence.term(2, "SPLIT: HEAD and n come into the row of what is USED, at the place of USED; PACKED: at the place of USED: LINK its ID, "
            + "LEN n, FLAGS: AVAIL and DONE both as the WRAP, no others.", () -> {
                RingMarks x = withFetched(0, 4, 0, "w5", "w6", "w7");
                x.finish(2, 7);
                x.finish(0, 0);
                Due.same("heads", Bench.row(x, 1), "2 0 -1 -1");
                Due.same("lengths", Bench.row(x, 2), "7 0 -1 -1");
                Due.same("table 0 stays", Bench.table(x, 0), "5/2/0 6/2/0 7/2/0 0/0/0");
                x = withFetched(1, 4, 0, "r1w5", "w6");
                x.finish(1, 6);
                Due.same("at the place of USED, not at its own", Bench.table(x, 0), "6/24/1 5/10/0 6/10/1 0/0/0");
                x.finish(0, 2);
                Due.same("the next one", Bench.table(x, 0), "6/24/1 2/24/0 6/10/1 0/0/0");
                x.reap();
                x.reap();
                Bench.round(x, "w7");
                Due.same("the last place of wrap 1", Bench.descriptor(x, 0, 3), "0/24/0");
                Bench.direct(x, "w8");
                Due.same("offered by wrap 0", Bench.descriptor(x, 0, 0), "8/18/0");
                x.fetch();
                x.finish(3, 3);
                Due.same("used by wrap 0", Bench.descriptor(x, 0, 0), "3/0/0");
            });
        Sentence.term(2, "Then USED goes on (PACKED: by the places that the BUFFER was OFFERED by).", () -> {
            RingMarks x = withFetched(0, 8, 0, "r1r1", "r1");
            x.finish(0, 0);
            Due.is("split", x.now(2), 1);
            x = withFetched(1, 8, 0, "r1r1", "r1r1r1");
            x.finish(1, 0);
            Due.is("packed", x.now(2), 3);
            x.finish(0, 0);
            Due.is("packed", x.now(2), 5);
            x.reap();
            x.reap();
            Bench.round(x, "r1r1r1r1r1r1");
            Due.is("eleven", x.now(2), 11);
            Bench.round(x, "r1r1r1r1r1");
            Due.is("it wraps at 16", x.now(2), 0);
            x = Bench.packed(8, 0);
            Bench.direct(x, "r1r1r1");
            Bench.turn(x, 0, 0, 1);
            x.fetch();
            x.finish(0, 0);
            Due.same("offered by three, walked by one", Bench.positions(x), "3 1 3 0");
        });
    }

    private static void batches() {
        Sentence.term(2, "With ORDER a BATCH can be FINISHED: all that are FETCHED and not FINISHED up to one, by what is told of that alone "
            + "(as above); USED goes on for all of them.", () -> {
                RingMarks x = withFetched(0, 8, 1, "w5", "w6", "w7", "w8", "w9");
                Due.is("the first", x.finish(0, 1), 0);
                Due.is("three behind it", x.batch(3, 4), 3);
                Due.same("finished", Bench.buffers(x), "22221");
                Due.same("heads", Bench.row(x, 1), "0 3 -1 -1 -1 -1 -1 -1");
                Due.same("lengths", Bench.row(x, 2), "1 4 -1 -1 -1 -1 -1 -1");
                Due.is("USED", x.now(2), 4);
                Due.is("of one alone", x.batch(4, 9), 1);
                Due.is("at USED", x.row(4, 1) * 10 + x.row(4, 2), 49);
                x = withFetched(1, 8, 1, "r1w5", "w6w6w6", "w7");
                Due.is("all", x.batch(2, 7), 3);
                Due.same("told at one place", Bench.table(x, 0), "7/24/2 5/10/0 6/11/1 6/11/1 6/10/1 7/10/2 0/0/0 0/0/0");
                Due.is("USED by their places", x.now(2), 6);
                x.reap();
                x.reap();
                x.reap();
                for (int k = 0; k < 4; k++) {
                    Bench.direct(x, "w9w9");
                    x.fetch();
                }
                Due.is("round the end", x.batch(6, 18), 4);
                Due.is("USED", x.now(2), 14);
                Due.same("told at place 6 alone", Bench.descriptor(x, 0, 6), "18/24/3");
            });
    }

    private static void whatIsThere() {
        Sentence.term(2, "To REAP: SPLIT: none is there, if TAKEN is USED; PACKED: none, if at the place of TAKEN not both AVAIL and DONE are "
            + "its WRAP.", () -> {
                RingMarks x = Bench.split(8, 0);
                Due.is("empty", x.reap(), -1);
                Bench.direct(x, "r1");
                Due.is("offered alone", x.reap(), -1);
                x.fetch();
                Due.is("fetched alone", x.reap(), -1);
                x.finish(0, 0);
                Due.is("finished", x.reap(), 0);
                Bench.rounds(x, 12);
                for (int k = 0; k < 8; k++) {
                    Bench.direct(x, "r1");
                    x.fetch();
                    x.finish(13 + k, 0);
                }
                Due.same("USED has wrapped, TAKEN has not", Bench.positions(x), "5 5 5 13");
                for (int k = 0; k < 8; k++) {
                    Due.is("a full row", x.reap(), 13 + k);
                }
                Due.is("TAKEN is USED", x.reap(), -1);
                for (int n = 2; n <= 8; n *= 2) {
                    x = Bench.packed(n, 0);
                    Due.is("empty", x.reap(), -1);
                    marksAt(x, BOTH);
                    Bench.rounds(x, n - 1);
                    Due.is("none at the first wrap 0", x.reap(), -1);
                    marksAt(x, 0);
                    Bench.rounds(x, n - 1);
                    marksAt(x, BOTH);
                }
            });
    }

    /** At place 0: of the four ways to mark it one alone is used. */
    private static void marksAt(RingMarks x, int used) {
        int b = Bench.direct(x, "r7");
        Due.is("offered alone", x.reap(), -1);
        x.fetch();
        x.finish(b, 0);
        int taken = x.now(3);
        for (int marks = 0; marks <= BOTH; marks += 8) {
            if (marks != used) {
                x.spoil(0, 0, 1, marks);
                Due.is("marks " + marks, x.reap(), -1);
                Due.is("TAKEN stays", x.now(3), taken);
            }
        }
        x.spoil(0, 0, 1, used | 7);
        Due.is("the other flags are nothing", x.reap(), b);
    }

    private static void lost() {
        Sentence.term(2, "Else b, the BUFFER of that HEAD (ID) that is FINISHED and not REAPED; if there is none, it is LOST: TAKEN stays.", () -> {
            // ID 0 is finished, 1 fetched alone, 2 offered alone, 3 free.
            RingMarks x = withFetched(1, 8, 0, "w5", "w6");
            Bench.direct(x, "w7");
            x.finish(0, 4);
            for (int id : new int[] {1, 2, 3, 7, 8, 99}) {
                x.spoil(0, 0, 2, id);
                Due.is("ID " + id, x.reap(), -2);
                Due.is("TAKEN stays", x.now(3), 0);
                Due.same("none is reaped", Bench.buffers(x), "210");
                Due.is("no length is told", x.length(), -1);
            }
            x.spoil(0, 0, 2, 0);
            Due.is("ID 0", x.reap(), 0);
            Due.is("TAKEN", x.now(3), 1);
            x.spoil(0, 1, 1, BOTH);
            x.spoil(0, 1, 2, 0);
            Due.is("reaped already", x.reap(), -2);
            Due.is("its length stays", x.length(), 4);
            x = Bench.packed(4, 0);
            x.spoil(0, 0, 1, BOTH);
            Due.is("no buffer at all", x.reap(), -2);
            x = withFetched(1, 4, 1, "w5");
            x.finish(0, 1);
            x.spoil(0, 0, 2, 3);
            Due.is("with ORDER, too", x.reap(), -2);
            Due.is("up to none", x.now(12), -1);
            x = withFetched(1, 4, 0, "w5", "w6");
            x.finish(0, 1);
            x.finish(1, 2);
            x.spoil(0, 0, 2, 1);
            Due.is("another one that is finished", x.reap(), 1);
            Due.is("by what is told there", x.length(), 1);
        });
    }

    private static void reaps() {
        Sentence.term(2, "Without ORDER b is REAPED, its length is what is told there.", () -> {
            RingMarks x = withFetched(0, 4, 0, "w5", "w6", "w7");
            x.finish(2, 7);
            x.finish(1, 0);
            Due.is("not the first", x.reap(), 2);
            Due.is("length", x.length(), 7);
            Due.is("up to none", x.now(12), -1);
            Due.is("nor the next", x.reap(), 1);
            Due.is("length 0", x.length(), 0);
            Due.same("reaped", Bench.buffers(x), "133");
            x = withFetched(1, 4, 0, "w5", "w6");
            x.finish(1, 6);
            x.spoil(0, 0, 0, 999);
            Due.is("packed", x.reap(), 1);
            Due.is("what is told there", x.length(), 999);
            Due.is("what was written", x.buffer(1, 6), 6);
        });
    }

    private static void inOrder() {
        Sentence.term(2, "With ORDER the first BUFFER that is OFFERED and not REAPED or DRAINED is, and so on by each REAPING, nothing being "
            + "looked at in between, up to b: of b alone the length is told.", () -> {
                RingMarks x = withFetched(0, 8, 1, "w5", "w6", "w7", "w8");
                x.batch(2, 7);
                for (int b = 0; b < 3; b++) {
                    Due.is("up to", x.now(12), b == 0 ? -1 : 2);
                    Due.is("reap", x.reap(), b);
                    Due.is("length", x.length(), b == 2 ? 7 : -1);
                    Due.is("TAKEN", x.now(3), b + 1);
                }
                Due.is("up to none", x.now(12), -1);
                Due.is("none", x.reap(), -1);
                x = withFetched(1, 8, 1, "w5", "w6", "w7", "w8");
                x.batch(2, 7);
                Due.is("reap", x.reap(), 0);
                x.spoil(0, 0, 0, 1);
                x.spoil(0, 0, 1, 0);
                x.spoil(0, 1, 1, 0);
                x.spoil(0, 2, 2, 9);
                Due.is("nothing is looked at", x.reap(), 1);
                Due.is("nothing is looked at", x.reap(), 2);
                Due.is("the length told first", x.length(), 7);
                for (int format = 0; format <= 1; format++) {
                    x = withFetched(format, 2, 1, "w5", "w6");
                    x.batch(1, 4);
                    Due.is("reap", x.reap(), 0);
                    Bench.direct(x, "w7");
                    x.fetch();
                    x.finish(2, 3);
                    Due.is("another is told at the same place", format == 0 ? x.row(0, 2) : x.descriptor(0, 0, 0), 3);
                    Due.is("up to b all the same", x.reap(), 1);
                    Due.is("b's length", x.length(), 4);
                    Due.is("then the other", x.reap(), 2);
                    Due.is("its length", x.length(), 3);
                }
                x = withFetched(0, 4, 1, "w5", "w6");
                x.reset();
                Bench.direct(x, "w7");
                x.fetch();
                x.finish(2, 3);
                Due.is("drained ones are passed by", x.reap(), 2);
                Due.is("length", x.length(), 3);
                x = Bench.packed(4, 1);
                Bench.direct(x, "w5");
                Bench.direct(x, "w6");
                x.spoil(0, 0, 2, 1);
                Due.is("by ID 1", x.fetch(), 1);
                x.finish(1, 5);
                Due.is("the first that is offered, fetched or not", x.reap(), 0);
                Due.is("up to", x.now(12), 1);
                Due.is("then b", x.reap(), 1);
            });
    }

    private static void frees() {
        Sentence.term(2, "TAKEN goes on for each that is REAPED, what it had is free (its DESCRIPTORS stay as they are).", () -> {
            RingMarks x = Bench.split(4, 3);
            Bench.indirect(x, "w5w5");
            Bench.direct(x, "w6w7w8");
            Bench.fetchAll(x, 2);
            Due.is("full", Bench.direct(x, "r1"), -5);
            x.batch(1, 0);
            String before = Bench.table(x, 0);
            x.reap();
            Due.is("one is free", x.now(4), 1);
            Due.is("TAKEN", x.now(3), 1);
            x.reap();
            Due.is("all are free", x.now(4), 4);
            Due.is("TAKEN", x.now(3), 2);
            Due.same("descriptors stay", Bench.table(x, 0), before);
            Due.same("the table stays", Bench.table(x, 1), "5/3/1 5/2/0");
            Due.is("the table is free", Bench.indirect(x, "r1"), 2);
            Due.is("the table is free", x.buffer(2, 3) * 10 + x.buffer(2, 2), 10);
            x = withFetched(1, 4, 0, "w5w6w7", "w8");
            x.finish(0, 18);
            x.reap();
            Due.is("three places", x.now(4) * 10 + x.now(3), 33);
            Due.same("they stay", Bench.table(x, 0), "18/24/0 6/11/0 7/10/0 8/10/1");
            Due.is("its ID is free", Bench.direct(x, "r1r1r1"), 2);
            Due.is("its ID is free", x.buffer(2, 2), 0);
        });
    }

    private static void notices() {
        Sentence.term(2, "A notice is due by an event e from old to new, if (new - e - 1) % M is below (new - old) % M (both from 0 to M - 1).", () -> {
            for (int r = 0; r < 6; r++) {
                RingMarks x = Due.ring(r / 3, 2 << r % 3, 0);
                int m = x.count(3);
                for (int p = 0; p < m; p++) {
                    int on = (p + 1) % m;
                    Due.is("nothing is passed", x.due(p, p, p), 0);
                    Due.is("old is passed", x.due(p, p, on), 1);
                    Due.is("new is not", x.due(on, p, on), 0);
                    Due.is("all but new", x.due((p + m - 2) % m, p, (p + m - 1) % m), 1);
                    Due.is("not new", x.due((p + m - 1) % m, p, (p + m - 1) % m), 0);
                }
            }
        });
        Sentence.term(2, "KICK (the driver's): from OFFERED at the latest KICK (0 at first) to OFFERED, by the event that the device told (0 at "
            + "first); without EVENT: due, if these are unlike and the device does not hush.", ReapSentences::kicks);
        Sentence.term(2, "SIGNAL (the device's): likewise by USED, the event of the driver, its hush.", ReapSentences::signals);
    }

    private static void kicks() {
        RingMarks x = Bench.split(8, 4);
        Due.is("nothing was offered", x.kick(), 0);
        Bench.direct(x, "r1");
        Due.is("0 is passed at first", x.kick(), 1);
        Bench.direct(x, "r1");
        Due.is("the event is behind", x.kick(), 0);
        x.event(1, 3);
        Bench.direct(x, "r1");
        Due.is("2 to 3", x.kick(), 0);
        x.hush(1, 1);
        Bench.direct(x, "r1");
        Due.is("3 to 4, whatever is hushed", x.kick(), 1);
        x = Bench.split(8, 4);
        Bench.rounds(x, 14);
        x.kick();
        x.event(1, 1);
        Bench.rounds(x, 1);
        Due.is("14 to 15, the event 15", x.kick(), 0);
        Bench.rounds(x, 2);
        Due.is("15 to 1 passes 15", x.kick(), 1);
        Bench.rounds(x, 16);
        Due.is("round once: nothing was passed", x.kick(), 0);
        x = Bench.packed(2, 0);
        Bench.rounds(x, 4);
        Due.is("packed, round once: alike", x.kick(), 0);
        Bench.rounds(x, 1);
        Due.is("unlike", x.kick(), 1);
        Due.is("alike", x.kick(), 0);
        x.hush(1, 1);
        Bench.rounds(x, 1);
        Due.is("hushed", x.kick(), 0);
        x.hush(1, 0);
        Due.is("that was the latest KICK", x.kick(), 0);
        x.hush(0, 1);
        Bench.rounds(x, 1);
        Due.is("the driver's hush is nothing here", x.kick(), 1);
    }

    private static void signals() {
        RingMarks x = withFetched(0, 8, 4, "r1", "r1", "r1", "r1");
        Due.is("nothing was used", x.signal(), 0);
        x.finish(0, 0);
        Due.is("0 is passed at first", x.signal(), 1);
        x.event(0, 2);
        x.finish(1, 0);
        Due.is("1 to 2", x.signal(), 0);
        x.hush(0, 1);
        x.finish(2, 0);
        Due.is("2 to 3, whatever is hushed", x.signal(), 1);
        Due.is("the device's event is 3", x.event(1, 15), 3);
        x.finish(3, 0);
        Due.is("the device's event is nothing here", x.signal(), 0);
        x = Bench.split(8, 0);
        Bench.rounds(x, 16);
        Due.is("round once: alike", x.signal(), 0);
        Bench.rounds(x, 1);
        Due.is("unlike", x.signal(), 1);
        Due.is("alike", x.signal(), 0);
        x.hush(0, 1);
        Bench.rounds(x, 1);
        Due.is("hushed", x.signal(), 0);
        x.hush(0, 0);
        Due.is("that was the latest SIGNAL", x.signal(), 0);
        x.hush(1, 1);
        Bench.rounds(x, 1);
        Due.is("the device's hush is nothing here", x.signal(), 1);
        x = Bench.packed(4, 4);
        Bench.round(x, "r1r1r1");
        x.event(0, 0);
        Due.is("TAKEN", x.now(11), 3);
        x.signal();
        Bench.round(x, "r1r1r1r1");
        Due.is("3 to 7 passes 3", x.signal(), 1);
        x.event(0, 1);
        Bench.round(x, "r1");
        Due.is("7 to 0 does not pass 0", x.signal(), 0);
        Bench.round(x, "r1");
        Due.is("0 to 1 does", x.signal(), 1);
    }

    private static void resets() {
        Sentence.term(2, "RESET: BUFFERS that are not REAPED or DRAINED are DRAINED, in the order of their numbers; POSITIONS (also those at the "
            + "latest KICK, SIGNAL), events, hushes, table 0, the rows are as at first, INDIRECT TABLES stay as they are, all is free; the "
            + "device is not BROKEN.", () -> {
                for (int format = 0; format <= 1; format++) {
                    RingMarks x = Due.ring(format, 8, 2);
                    Bench.indirect(x, "w1w2");
                    Bench.direct(x, "w3");
                    Bench.direct(x, "w4");
                    Bench.fetchAll(x, 3);
                    x.finish(1, 0);
                    x.finish(2, 0);
                    x.reap();
                    Bench.direct(x, "w5");
                    Bench.direct(x, "w6r7");
                    x.fetch();
                    x.fetch();
                    Due.is("broken", x.now(7), 6);
                    x.kick();
                    x.signal();
                    x.event(0, 3);
                    x.event(1, 3);
                    x.hush(0, 1);
                    x.hush(1, 1);
                    Due.same("one of each", Bench.buffers(x), "13210");
                    Due.is("four", x.reset(), 4);
                    Due.same("in order", Bench.drained(x), "0 2 3 4");
                    Due.same("drained", Bench.buffers(x), "43444");
                    Due.same("positions", Bench.positions(x), "0 0 0 0");
                    Due.same("table 0", Bench.table(x, 0), "0/0/0" + " 0/0/0".repeat(7));
                    Due.same("rows", Bench.row(x, 0) + Bench.row(x, 1) + Bench.row(x, 2), ("-1" + " -1".repeat(7)).repeat(3));
                    Due.same("indirect tables", Bench.table(x, 1), "1/3/1 2/2/0");
                    Due.is("free", x.now(4), 8);
                    Due.is("events, broken", x.now(10) + x.now(11) + x.now(7), 0);
                    Due.is("none was offered, used since", x.kick() + x.signal(), 0);
                    Due.is("none is there", x.fetch() + x.reap(), -2);
                    Due.is("the table is free", Bench.indirect(x, "w9"), 5);
                    Due.is("that table", x.buffer(5, 3), 1);
                    x.fetch();
                    x.finish(5, 0);
                    Due.is("nothing is hushed", x.kick() * 10 + x.signal(), 11);
                    Due.is("the one", x.reset(), 1);
                    Due.is("drained ones are not drained again", x.reset(), 0);
                }
            });
    }
}
