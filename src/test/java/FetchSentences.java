/** Part 2 of "Terms", up to what is fetched: what is there, walks, and each reason for which they are refused. */
final class FetchSentences {
    private static final int AVAIL = 8;
    private static final int DONE = 16;

    private FetchSentences() {
    }

    static void tell() {
        whatIsThere();
        walks();
        theLeast();
        reasonOne();
        reasonTwo();
        reasonsOfIndirects();
        reasonFive();
        reasonSix();
        broken();
        acts();
        reasonSeven();
        capacities();
    }

    private static void refused(String call, RingMarks x, int reason, String acts) {
        int seen = x.now(1);
        String states = Bench.buffers(x);
        Due.is(call, x.fetch(), -10 - reason);
        Due.is(call + ": broken by", x.now(7), reason);
        Due.is(call + ": SEEN stays", x.now(1), seen);
        Due.same(call + ": none is fetched", Bench.buffers(x), states);
        Due.same(call + ": acts", Bench.acts(x), acts);
    }

    private static void fetched(String call, RingMarks x, int b, int load, int capacity) {
        Due.is(call, x.fetch(), b);
        Due.is(call + ": load", x.buffer(b, 5), load);
        Due.is(call + ": capacity", x.buffer(b, 4), capacity);
        Due.is(call + ": not broken", x.now(7), 0);
    }

    private static void whatIsThere() {
        Sentence.term(2, "To FETCH: SPLIT: none is there, if SEEN is OFFERED; else the HEAD at the place of SEEN;", () -> {
            RingMarks x = Bench.split(8, 0);
            Due.is("empty", x.fetch(), -1);
            Due.is("SEEN stays", x.now(1), 0);
            for (int b = 0; b < 24; b++) {
                Bench.round(x, "r1");
                Due.is("none more behind " + b, x.fetch(), -1);
            }
            Bench.rounds(x, 5);
            for (int k = 0; k < 8; k++) {
                Bench.direct(x, "r1");
            }
            Due.same("OFFERED has wrapped, SEEN has not", Bench.positions(x), "5 13 13 13");
            for (int k = 0; k < 8; k++) {
                Due.is("of a full row", x.fetch(), 29 + k);
            }
            Due.is("SEEN is OFFERED", x.fetch(), -1);
        });
        Sentence.term(2, "PACKED: the place of SEEN, if AVAIL there is its WRAP, and DONE is not; else none is there.", () -> {
            for (int n = 2; n <= 8; n *= 2) {
                RingMarks x = Bench.packed(n, 0);
                Due.is("empty", x.fetch(), -1);
                marksAt(x, 0, AVAIL);
                Bench.rounds(x, n - 1);
                Due.is("none at the first wrap 0", x.fetch(), -1);
                marksAt(x, 0, DONE);
                marksAt(x, 1, DONE);
                Bench.rounds(x, n - 2);
                marksAt(x, 0, AVAIL);
                x.setup(1, n, 0);
                for (int b = 0; b < n; b++) {
                    Bench.direct(x, "r1");
                    Due.is("fetched", x.fetch(), b);
                    Due.is("none more, though that is not finished", x.fetch(), -1);
                }
            }
        });
    }

    /** Of the four ways to mark a place one alone is available: all others are none there, and break nothing. */
    private static void marksAt(RingMarks x, int place, int available) {
        int b = Bench.direct(x, "r7");
        int seen = x.now(1);
        for (int marks = 0; marks <= AVAIL + DONE; marks += AVAIL) {
            if (marks != available) {
                x.spoil(0, place, 1, marks);
                Due.is("marks " + marks, x.fetch(), -1);
                Due.is("SEEN stays, not broken", x.now(1) * 10 + x.now(7), seen * 10);
            }
        }
        x.spoil(0, place, 1, available);
        Due.is("marks " + available, x.fetch(), b);
        x.finish(b, 0);
        Due.is("reap", x.reap(), b);
    }

    private static void walks() {
        Sentence.term(2, "A WALK goes by DESCRIPTORS from there on, in table 0; SPLIT: by LINK, PACKED: by the next place, as long as NEXT is told;",
            () -> {
                RingMarks x = Bench.with(0, 8, 0, "r1r2r4r8w16w32w64w128", 0);
                x.spoil(0, 1, 2, 5);
                fetched("by link", x, 0, 3, 224);
                x = Bench.with(0, 8, 0, "r1r2r4w8", 0);
                Bench.turn(x, 0, 1, 1);
                fetched("no next at the second", x, 0, 3, 0);
                x = Bench.with(0, 8, 0, "r1r2r4w8", 0);
                Bench.turn(x, 0, 3, 1);
                x.spoil(0, 3, 2, 4);
                x.spoil(0, 4, 0, 16);
                x.spoil(0, 4, 1, 2);
                fetched("next at the last", x, 0, 7, 24);
                x = Bench.packed(4, 0);
                Bench.rounds(x, 3);
                Bench.direct(x, "r1r2w4");
                x.spoil(0, 3, 2, 99);
                x.spoil(0, 0, 2, 99);
                fetched("links ahead of the last place are nothing", x, 3, 3, 4);
                Due.is("from place 3 to 0 and 1", x.now(1), 6);
                x = Bench.with(1, 4, 0, "r1r2w4", 0);
                Bench.turn(x, 0, 1, 1);
                fetched("no next at the second place", x, 0, 3, 0);
                Due.is("two places", x.now(1), 2);
            });
        Sentence.term(2, "an INDIRECT one: by the DESCRIPTORS of its table from 0 on, by LINK.", () -> {
            for (int format = 0; format <= 1; format++) {
                RingMarks x = Bench.with(format, 8, 2, "r1r2r4w8w16", 1);
                x.spoil(1, 0, 2, 2);
                x.spoil(1, 2, 2, 4);
                fetched("by link", x, 0, 5, 16);
                x = Bench.with(format, 8, 2, "r1r2r4w8w16", 1);
                x.spoil(1, 0, 2, 4);
                x.spoil(1, 4, 1, 3);
                x.spoil(1, 4, 2, 3);
                Bench.turn(x, 1, 3, 1);
                fetched("backwards, too", x, 0, 1, 24);
                x = Bench.with(format, 8, 2, "r1r2r4w8w16", 1);
                Bench.turn(x, 1, 0, 1);
                fetched("as long as NEXT is told", x, 0, 1, 0);
            }
        });
    }

    private static void theLeast() {
        Sentence.term(2, "REFUSED is, at the first DESCRIPTOR at which one of these is so, of these the least:", () -> {
            RingMarks x = Bench.with(0, 4, 0, "w1r2w3", 0);
            x.spoil(0, 1, 2, 9);
            refused("6 ahead of a later 1", x, 6, "1 2");
            x = Bench.with(0, 4, 2, "r1r2w3", 0);
            x.spoil(0, 1, 1, 4);
            refused("4 at the second, nothing behind it", x, 4, "1 2");
            x = Bench.with(0, 4, 0, "r1w2", 0);
            x.spoil(0, 1, 1, 3);
            x.spoil(0, 1, 2, 0);
            refused("2 and 6", x, 2, "1 2");
            x = Bench.with(0, 4, 0, "r1", 0);
            x.spoil(0, 0, 1, 5);
            x.spoil(0, 0, 0, 0);
            refused("3 and 4 and 5", x, 3, "1 2");
            x = Bench.with(0, 4, 2, "r1", 1);
            x.spoil(0, 0, 1, 5);
            x.spoil(0, 0, 0, 0);
            refused("4 and 5", x, 4, "1 2");
            x = Bench.with(0, 4, 2, "w1w2", 1);
            x.spoil(1, 1, 1, 4);
            refused("4 and 6 in an indirect table", x, 4, "1 11 12 2");
            x = Bench.with(0, 4, 2, "r1w2", 1);
            x.spoil(1, 1, 1, 3);
            x.spoil(1, 1, 2, 0);
            refused("2 and 6 in an indirect table", x, 2, "1 11 12 2");
            x = Bench.with(1, 4, 0, "w1r2", 0);
            Bench.turn(x, 0, 1, AVAIL);
            refused("1 and 6", x, 1, "1 2");
            x = Bench.with(1, 2, 2, "r1r2r3", 1);
            x.spoil(0, 0, 0, 2);
            refused("1 and 2 in a packed ring's table", x, 1, "1 11 12 2");
        });
    }

    private static void reasonOne() {
        Sentence.term(2, "1 there is no such DESCRIPTOR (HEAD, LINK; an INDIRECT TABLE has as many as LEN tells; PACKED, in table 0: AVAIL "
            + "is not its WRAP, or DONE is);", () -> {
                for (int n = 2; n <= 8; n *= 2) {
                    RingMarks x = Bench.with(0, n, 0, "r1r2", 0);
                    Due.is("HEAD " + n, x.chain(n), -11);
                    Due.is("HEAD -1", x.chain(-1), -11);
                    Due.is("HEAD " + (n - 1), x.chain(n - 1), 1);
                    x.spoil(0, 0, 2, n - 1);
                    Due.is("LINK to the last one", x.chain(0), 2);
                    x.spoil(0, 0, 2, 99);
                    Due.is("LINK 99", x.chain(0), -11);
                    x.spoil(0, 0, 2, n);
                    refused("LINK " + n, x, 1, "1 2");
                }
                for (int format = 0; format <= 1; format++) {
                    RingMarks x = Bench.with(format, 8, 2, "r1r2r3r4", 1);
                    x.spoil(1, 0, 2, 4);
                    refused("LINK of a table of 4", x, 1, "1 11 12 2");
                    x = Bench.with(format, 8, 2, "r1r2r3r4", 1);
                    x.spoil(0, 0, 0, 3);
                    x.spoil(1, 0, 2, 3);
                    refused("LINK of as many as LEN tells", x, 1, "1 11 12 2");
                    x = Bench.with(format, 8, 2, "r1r2r3r4", 1);
                    x.spoil(0, 0, 0, 3);
                    x.spoil(1, 0, 2, 2);
                    Bench.turn(x, 1, 2, 1);
                    fetched("LINK to the last of these", x, 0, 4, 0);
                }
                packedPlaces();
            });
    }

    /** The second place of a buffer, in both wraps, and just where the wrap changes. */
    private static void packedPlaces() {
        for (int start = 0; start < 8; start++) {
            for (int marks = 0; marks <= AVAIL + DONE; marks += AVAIL) {
                RingMarks x = Bench.packed(4, 0);
                Bench.rounds(x, start);
                Bench.direct(x, "r1r2");
                int second = (start + 1) % 8;
                x.spoil(0, second % 4, 1, marks);
                if (marks == (second < 4 ? AVAIL : DONE)) {
                    fetched("second place at " + second, x, start, 3, 0);
                } else {
                    refused("second place at " + second + " marked " + marks, x, 1, "1 2");
                }
            }
        }
        RingMarks x = Bench.with(1, 4, 0, "r1r2r3r4", 0);
        Bench.turn(x, 0, 3, 1);
        refused("on to the first place again: another wrap", x, 1, "1 2");
    }

    private static void reasonTwo() {
        Sentence.term(2, "2 it was in this WALK of a table already, or (PACKED) N were;", () -> {
            for (int n = 2; n <= 8; n *= 2) {
                for (int to = 0; to < n; to++) {
                    RingMarks x = Bench.with(0, n, 0, "r1".repeat(n), 0);
                    Due.is("all of them", x.chain(0), n);
                    Bench.turn(x, 0, n - 1, 1);
                    x.spoil(0, n - 1, 2, to);
                    refused("from the last to " + to, x, 2, "1 2");
                }
            }
            for (int format = 0; format <= 1; format++) {
                for (int to = 0; to < 3; to++) {
                    RingMarks x = Bench.with(format, 8, 2, "r1r2r3", 1);
                    Bench.turn(x, 1, 2, 1);
                    x.spoil(1, 2, 2, to);
                    refused("in an indirect table", x, 2, "1 11 12 2");
                }
            }
            // Each table has a walk of its own: place 0 of table 0 and of table 1 are two.
            RingMarks x = Bench.with(0, 2, 2, "r1r1r1r1r1r1r1r1", 1);
            fetched("split: eight in a ring of two", x, 0, 8, 0);
            for (int n = 2; n <= 8; n *= 2) {
                x = Bench.with(1, n, 2, "r1".repeat(n), 1);
                fetched("packed: N", x, 0, n, 0);
                if (n < 8) {
                    x = Bench.with(1, n, 2, "r1".repeat(n + 1), 1);
                    refused("packed: one more than N", x, 2, "1 11 12 2");
                }
            }
        });
    }

    private static void reasonsOfIndirects() {
        Sentence.term(2, "3 INDIRECT without that FEATURE;", () -> {
            for (int format = 0; format <= 1; format++) {
                for (int features = 0; features <= 7; features++) {
                    RingMarks x = Bench.with(format, 4, features, "r1r2", 0);
                    Bench.turn(x, 0, 1, 4);
                    refused("features " + features, x, (features & 2) == 0 ? 3 : 4, "1 2");
                    x = Bench.with(format, 4, features, "r1", 0);
                    Bench.turn(x, 0, 0, 4);
                    refused("features " + features + " at the first", x, (features & 2) == 0 ? 3 : 5, "1 2");
                }
            }
        });
        Sentence.term(2, "4 INDIRECT in an INDIRECT TABLE, or with NEXT, or (in table 0) not the first;", () -> {
            for (int format = 0; format <= 1; format++) {
                for (int i = 0; i < 3; i++) {
                    RingMarks x = Bench.with(format, 4, 2, "r1r2w3", 1);
                    Bench.turn(x, 1, i, 4);
                    refused("in an indirect table at " + i, x, 4, "1 11 12 2");
                }
                RingMarks x = Bench.with(format, 4, 2, "r1r2w3", 1);
                Bench.turn(x, 0, 0, 1);
                refused("with NEXT", x, 4, "1 2");
                x = Bench.with(format, 4, 2, "r1", 1);
                Bench.direct(x, "r1r2");
                Due.is("fetch", x.fetch(), 0);
                x.spoil(0, 2, 0, 1);
                x.spoil(0, 2, 1, format == 0 ? 4 : 12);
                x.spoil(0, 2, 2, format == 0 ? 1 : 0);
                refused("not the first, though its table is there", x, 4, "1 2");
            }
        });
    }

    private static void reasonFive() {
        Sentence.term(2, "5 its table is none (SPLIT: LINK not 1 to 4), or has not as many DESCRIPTORS as LEN tells, or LEN is 0;", () -> {
            for (int link = 0; link <= 99; link++) {
                RingMarks x = Bench.split(8, 2);
                for (int t = 1; t <= 4; t++) {
                    Bench.indirect(x, "r" + t);
                }
                x.spoil(0, 0, 2, link);
                if (link >= 1 && link <= 4) {
                    fetched("LINK " + link, x, 0, link, 0);
                } else {
                    refused("LINK " + link, x, 5, "1 2");
                }
            }
            for (int format = 0; format <= 1; format++) {
                for (int len : new int[] {0, 1, 3, 4, 5, 8, 9, 999}) {
                    RingMarks x = Bench.with(format, 8, 2, "r1r1r1r1", 1);
                    x.spoil(0, 0, 0, len);
                    Bench.turn(x, 1, 0, 1);
                    if (len >= 1 && len <= 4) {
                        fetched("LEN " + len, x, 0, 1, 0);
                    } else {
                        refused("LEN " + len, x, 5, "1 2");
                    }
                }
                RingMarks x = Bench.with(format, 8, 2, "r1", 1);
                x.spoil(0, 0, 2, 3);
                refused("a table that was not laid", x, 5, "1 2");
            }
            RingMarks x = Bench.with(1, 8, 2, "r1", 1);
            x.spoil(0, 0, 2, 96);
            refused("packed: 96 is table 1, too, but no ID", x, 7, "1 11 12 2");
        });
    }

    private static void reasonSix() {
        Sentence.term(2, "6 one without WRITE behind one with it (INDIRECT ones in table 0 are none of these).", () -> {
            for (int r = 0; r < 4; r++) {
                int format = r / 2;
                int how = r % 2;
                String acts = how == 0 ? "1 2" : "1 11 12 2";
                refused("w r", Bench.with(format, 8, 2, "w1r1", how), 6, acts);
                refused("w r of 0", Bench.with(format, 8, 2, "w0r0", how), 6, acts);
                refused("r w w r w", Bench.with(format, 8, 2, "r1w1w1r1w1", how), 6, acts);
                fetched("r w", Bench.with(format, 8, 2, "r1w2", how), 0, 1, 2);
                fetched("w w", Bench.with(format, 8, 2, "w1w2", how), 0, 0, 3);
                fetched("r r", Bench.with(format, 8, 2, "r1r2", how), 0, 3, 0);
                RingMarks x = Bench.with(format, 8, 2, "r1w2", 1);
                Bench.turn(x, 0, 0, 2);
                fetched("WRITE at the indirect one", x, 0, 1, 2);
            }
        });
    }

    private static RingMarks brokenBy(int reason, int format) {
        RingMarks x = Due.ring(format, 8, 3);
        Bench.round(x, "w9");
        Bench.direct(x, "w9");
        x.fetch();
        int how = reason == 5 ? 1 : 0;
        Due.offer(x, reason == 6 ? "w1r1" : "r1r1", how);
        int place = 2;
        if (format == 0) {
            // The first one was reaped, so the third has the descriptors 1 and 2.
            place = 1;
        }
        if (reason == 1) {
            x.spoil(0, format == 0 ? place : place + 1, format == 0 ? 2 : 1, format == 0 ? 9 : 0);
        } else if (reason == 2) {
            x.spoil(0, place, 2, place);
        } else if (reason == 4) {
            Bench.turn(x, 0, place + 1, 4);
        } else if (reason == 5) {
            x.spoil(0, place, 0, 3);
        } else if (reason == 7) {
            x.spoil(0, place + 1, 2, 50);
        }
        Due.is("refused", x.fetch(), -10 - reason);
        return x;
    }

    private static void broken() {
        Sentence.term(2, "Then the device is BROKEN by that reason till reset().", () -> {
            int[][] known = {{1, 0}, {1, 1}, {2, 0}, {4, 0}, {4, 1}, {5, 0}, {5, 1}, {6, 0}, {6, 1}, {7, 1}};
            for (int[] k : known) {
                RingMarks x = brokenBy(k[0], k[1]);
                Due.is("by that reason", x.now(7), k[0]);
                Due.is("fetch", x.fetch(), -2);
                Due.is("offer", Bench.direct(x, "r1"), -3);
                Due.is("finish", x.finish(1, 0), -4);
                Due.is("batch", x.batch(1, 0), -4);
                Due.is("still", x.now(7), k[0]);
                Due.is("reset", x.reset(), 2);
                Due.is("not any more", x.now(7), 0);
                Due.is("offer", Bench.direct(x, "r1"), 3);
                Due.is("fetch", x.fetch(), 3);
                Due.is("finish", x.finish(3, 0), 0);
            }
            RingMarks x = brokenBy(6, 0);
            x.setup(0, 8, 0);
            Due.is("a new ring is not", x.now(7), 0);
            Due.is("fetch", x.fetch(), -1);
            x = Bench.split(4, 0);
            Bench.direct(x, "w5");
            x.fetch();
            x.finish(0, 5);
            Bench.direct(x, "w1r1");
            x.fetch();
            Due.is("the driver reaps all the same", x.reap(), 0);
            Due.is("notices, too", x.kick() * 10 + x.signal(), 11);
        });
    }

    private static void acts() {
        Sentence.term(2, "Each WALK of a table is opened, and shut again, whatever comes, the inner one first.", () -> {
            for (int format = 0; format <= 1; format++) {
                RingMarks x = Due.ring(format, 8, 2);
                Due.same("ahead of any", Bench.acts(x), "");
                Bench.direct(x, "r1");
                x.fetch();
                Due.same("direct", Bench.acts(x), "1 2");
                for (int t = 1; t <= 4; t++) {
                    Bench.indirect(x, "r1r1");
                    x.fetch();
                    int table = format == 0 ? t : t % 4 + 1;
                    Due.same("indirect", Bench.acts(x), "1 " + table + "1 " + table + "2 2");
                }
                Bench.direct(x, "w1r1");
                x.fetch();
                Due.same("refused in table 0", Bench.acts(x), "1 2");
                x.reset();
                Bench.indirect(x, "w1r1");
                x.fetch();
                Due.same("refused in an indirect table", Bench.acts(x), "1 11 12 2");
            }
        });
    }

    private static void reasonSeven() {
        Sentence.term(2, "What was FETCHED goes by the BUFFER that has that HEAD (SPLIT), or the ID of the last place of the WALK (PACKED); "
            + "if none that is OFFERED and not FETCHED has it: REFUSED 7.", () -> {
                RingMarks x = Bench.split(8, 0);
                Bench.direct(x, "r1r2");
                Bench.direct(x, "r3");
                x.fetch();
                x.finish(0, 0);
                x.reap();
                Bench.direct(x, "r4");
                Due.is("split, head 2", x.fetch(), 1);
                Due.is("split, head 0", x.fetch(), 2);
                for (int id : new int[] {0, 3, 4, 7, 8, 99}) {
                    x = packedWithIds();
                    x.spoil(0, 5, 2, id);
                    refused("ID " + id, x, 7, "1 2");
                }
                x = packedWithIds();
                x.spoil(0, 5, 2, 2);
                Due.is("the ID of another one that is offered", x.fetch(), 5);
                Due.is("by the places of the walk", x.now(1), 6);
                refused("that one's own place", x, 7, "1 2");
                x = packedWithIds();
                x.spoil(0, 4, 2, 99);
                Due.is("the first place's does not count", x.fetch(), 4);
                x = Bench.with(1, 4, 0, "r1", 0);
                x.reset();
                x.spoil(0, 0, 1, AVAIL);
                refused("a drained one has it no more", x, 7, "1 2");
            });
    }

    /** ID 0 is fetched, 1 is that of buffer 4, offered at the places 4 and 5, 2 that of buffer 5, 3 was reaped. */
    private static RingMarks packedWithIds() {
        RingMarks x = Bench.packed(8, 0);
        for (int k = 0; k < 4; k++) {
            Bench.direct(x, "r1");
        }
        Bench.fetchAll(x, 4);
        for (int b = 1; b < 4; b++) {
            x.finish(b, 0);
            Due.is("reap", x.reap(), b);
        }
        Due.is("offer", Bench.direct(x, "r1r1"), 4);
        Due.is("offer", Bench.direct(x, "r1"), 5);
        return x;
    }

    private static void capacities() {
        Sentence.term(2, "Its CAPACITY is LEN of all with WRITE, its LOAD of all without (INDIRECT ones not counted).", () -> {
            for (int r = 0; r < 4; r++) {
                int format = r / 2;
                int how = r % 2;
                fetched("writes alone", Bench.with(format, 8, 2, "w999w999w999w999w999w999w999w999", how), 0, 0, 7992);
                fetched("reads alone", Bench.with(format, 8, 2, "r999r999r999r999r999r999r999r999", how), 0, 7992, 0);
                fetched("of length 0", Bench.with(format, 8, 2, "r0w0", how), 0, 0, 0);
                fetched("both", Bench.with(format, 8, 2, "r1r2w4w8", how), 0, 3, 12);
                RingMarks x = Bench.with(format, 8, 2, "r1w2", how);
                x.spoil(how, 1, 0, 999);
                fetched("as walked, not as told", x, 0, 1, 999);
            }
        });
        Sentence.term(2, "SEEN goes on: SPLIT: by 1, PACKED: by the places of the WALK in table 0.", () -> {
            RingMarks x = Bench.split(8, 2);
            Bench.direct(x, "r1r1r1");
            Bench.indirect(x, "r1r1r1");
            x.fetch();
            Due.is("split, direct", x.now(1), 1);
            x.fetch();
            Due.is("split, indirect", x.now(1), 2);
            x = Bench.packed(8, 2);
            Bench.direct(x, "r1r1r1");
            Bench.indirect(x, "r1r1r1");
            x.fetch();
            Due.is("packed, direct", x.now(1), 3);
            x.fetch();
            Due.is("packed, indirect", x.now(1), 4);
            x = Bench.packed(4, 0);
            Bench.rounds(x, 6);
            Bench.direct(x, "r1r1r1");
            x.fetch();
            Due.is("packed, round the end", x.now(1), 1);
            x = Bench.packed(8, 0);
            Bench.direct(x, "r1r1r1");
            Bench.turn(x, 0, 1, 1);
            x.fetch();
            Due.is("packed, of a walk that was cut", x.now(1), 2);
        });
    }
}
