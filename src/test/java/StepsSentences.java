/** Part 3 of "Terms", and the promises 26 to 33: two small programs in all their interleavings. */
final class StepsSentences {
    private static final String FULL_DRIVER = "add;read;tell;kick;add;read;tell;kick;";
    private static final String FULL_DEVICE = "drain;arm;again;sleep;drain;";

    private StepsSentences() {
    }

    static void tell() {
        texts();
        driverSteps();
        deviceSteps();
        faults();
        goingOn();
        missed();
        alike();
        promiseOfSteps();
        promisesOfStates();
        promisesOfMissed();
        promisesOfPlay();
        promiseOfNotices();
    }

    private static RingMarks with(String driver, String device) {
        RingMarks x = new RingMarks();
        Due.is("driver " + driver, Due.steps(x, driver, 0) >= 0, true);
        Due.is("device " + device, Due.steps(x, device, 1) >= 0, true);
        return x;
    }

    /** The steps are done, all of them: '0' the driver's, '1' the device's. */
    private static void go(RingMarks x, String sides) {
        Due.is("play " + sides, play(x, sides), sides.length());
    }

    private static int play(RingMarks x, String sides) {
        byte[] bytes = new byte[sides.length()];
        for (int k = 0; k < bytes.length; k++) {
            bytes[k] = (byte) (sides.charAt(k) - '0');
        }
        Due.feed(x, bytes);
        return x.play();
    }

    private static String numbers(RingMarks x) {
        StringBuilder text = new StringBuilder();
        for (int what = 0; what <= 9; what++) {
            text.append(what == 0 ? "" : " ").append(x.played(what));
        }
        return text.toString();
    }

    private static String row(RingMarks x) {
        StringBuilder text = new StringBuilder();
        for (int i = 0; x.missedBy(i) >= 0; i++) {
            text.append(x.missedBy(i));
        }
        return text.toString();
    }

    private static void texts() {
        Sentence.term(3, "A DRIVER is a text { STEP ; } of up to 80 bytes, 8 STEPS at most:", () -> {
            RingMarks x = new RingMarks();
            Due.is("none", Due.steps(x, "", 0), 0);
            Due.is("one", Due.steps(x, "add;", 0), 1);
            Due.is("without ;", Due.steps(x, "add", 0), -1003);
            Due.is("; alone", Due.steps(x, ";", 0), -1000);
            Due.is("eight", Due.steps(x, FULL_DRIVER, 0), 8);
            Due.is("nine", Due.steps(x, FULL_DRIVER + "add;", 0), -1038);
            Due.is("80 bytes", Due.steps(x, FULL_DRIVER + " ".repeat(42), 0), 8);
            Due.is("81 bytes", Due.steps(x, FULL_DRIVER + " ".repeat(43), 0), -1080);
            Due.is("81 bytes, nothing is read", Due.steps(x, "x" + " ".repeat(80), 0), -1080);
            Due.is("100 bytes", Due.steps(x, " ".repeat(100), 0), -1080);
        });
        Sentence.term(3, "A DEVICE likewise, 5 STEPS:", () -> {
            RingMarks x = new RingMarks();
            Due.is("none", Due.steps(x, "", 1), 0);
            Due.is("five", Due.steps(x, FULL_DEVICE, 1), 5);
            Due.is("six", Due.steps(x, FULL_DEVICE + "arm;", 1), -1028);
            Due.is("80 bytes", Due.steps(x, " ".repeat(52) + FULL_DEVICE, 1), 5);
            Due.is("81 bytes", Due.steps(x, " ".repeat(53) + FULL_DEVICE, 1), -1080);
            for (String word : new String[] {"add;", "read;", "tell;", "kick;"}) {
                Due.is("a driver's", Due.steps(x, word, 1), -1000);
                Due.is("a driver's", Due.steps(x, word, 0), 1);
            }
            for (String wrong : new String[] {"zrain;", "draiz;", "zrm;", "arz;", "zgain;", "agaiz;", "zleep;", "sleez;", "sleepz;"}) {
                Due.is(wrong, Due.steps(x, wrong, 1), -1000);
            }
            for (String word : new String[] {"drain;", "arm;", "again;", "sleep;"}) {
                Due.is("a device's", Due.steps(x, word, 1), 1);
                Due.is("a device's", Due.steps(x, word, 0), -1000);
            }
        });
        Sentence.term(3, "A STEP is a word of small letters (as many as stand there); blanks may stand between all.", () -> {
            RingMarks x = new RingMarks();
            Due.is("no blanks", Due.steps(x, "add;tell;", 0), 2);
            Due.is("blanks", Due.steps(x, " add ;  tell  ; ", 0), 2);
            Due.is("blanks alone", Due.steps(x, "   ", 0), 0);
            for (String wrong : new String[] {"adda;", "addz;", "addtell;", "ad;", "a;", "Add;", "ADD;", "aadd;", "\u00e1dd;",
                "zdd;", "azd;", "adz;", "zead;", "tezl;", "kicz;"}) {
                Due.is(wrong, Due.steps(x, wrong, 0), -1000);
            }
            for (String wrong : new String[] {"ad d;", "add`;", "add{;", "addD;", "add0;", "add\t;", "add\0;"}) {
                Due.is(wrong, Due.steps(x, wrong, 0), wrong.equals("ad d;") ? -1000 : -1003);
            }
        });
    }

    private static void driverSteps() {
        Sentence.term(3, "'add' (one more is there)", () -> {
            RingMarks x = with("add;add;add;add;add;add;add;add;", "");
            go(x, "0");
            Due.is("one", x.played(2), 1);
            go(x, "00000000");
            Due.is("eight", x.played(2), 8);
            Due.is("none was seen, sent", x.played(3) + x.played(8) + x.played(7), 0);
        });
        Sentence.term(3, "'read' (it looks at the event)", () -> {
            RingMarks x = with("add;read;read;", "drain;arm;");
            go(x, "00");
            Due.is("0 at first", x.played(5), 0);
            go(x, "00110");
            Due.same("looked at again", numbers(x), "3 0 1 1 1 1 0 0 0 0");
            go(x, "00011");
            Due.same("not looked at again", numbers(x), "3 0 1 1 1 0 0 0 0 0");
        });
        Sentence.term(3, "'tell' (a notice is sent, if due by the event it looked at last, 0 at first, from how many there were at its last "
            + "'tell', 0 at first, to how many there are; M 16)", () -> {
                RingMarks x = with("tell;add;tell;add;tell;tell;", "");
                go(x, "0");
                Due.is("none there: not due", x.played(8), 0);
                go(x, "000");
                Due.is("0 to 1 passes 0", x.played(8) * 10 + x.played(6), 11);
                go(x, "00000");
                Due.is("1 to 2 does not", x.played(8) * 10 + x.played(6), 12);
                go(x, "000000");
                Due.is("2 to 2 does not", x.played(8) * 10 + x.played(6), 12);
                x = with("add;tell;read;add;tell;", "drain;arm;");
                go(x, "0011000");
                Due.is("1 to 2 passes the 1 it looked at", x.played(8) * 10 + x.played(5), 21);
                x = with("add;tell;add;read;tell;", "drain;arm;");
                go(x, "0001100");
                Due.is("1 to 2 does not pass 2", x.played(8) * 10 + x.played(5), 12);
                x = with("add;add;tell;", "drain;arm;");
                go(x, "00110");
                Due.is("the event it did not look at is nothing", x.played(8) * 10 + x.played(4), 12);
            });
        Sentence.term(3, "'kick' (a notice is sent).", () -> {
            RingMarks x = with("kick;kick;kick;kick;kick;kick;kick;kick;", "sleep;");
            go(x, "0");
            Due.is("sent, waits", x.played(8) * 10 + x.played(7), 11);
            go(x, "00000000");
            Due.is("eight sent, one waits", x.played(8) * 10 + x.played(7), 81);
            Due.is("nothing is told by it", x.played(6), 0);
        });
    }

    private static void deviceSteps() {
        Sentence.term(3, "'drain' (it has seen all that are there)", () -> {
            RingMarks x = with("add;add;add;", "drain;");
            go(x, "001");
            Due.is("two", x.played(3), 2);
            go(x, "0010");
            Due.is("not the third", x.played(3) * 10 + x.played(2), 23);
            go(x, "1");
            Due.is("none", x.played(3), 0);
        });
        Sentence.term(3, "'arm' (the event is how many it has seen; 0 at first)", () -> {
            RingMarks x = with("add;add;", "arm;drain;arm;");
            go(x, "001");
            Due.is("0 at first", x.played(4), 0);
            go(x, "00111");
            Due.is("two", x.played(4), 2);
            go(x, "01101");
            Due.is("what was seen, not what is there", x.played(4), 1);
        });
        Sentence.term(3, "'again' (if it has not seen all that are there, it goes on at its first STEP)", () -> {
            RingMarks x = with("add;add;", "arm;again;drain;again;sleep;");
            go(x, "11");
            Due.is("none there: on", x.played(1), 2);
            go(x, "011");
            Due.is("one not seen: first", x.played(1), 0);
            go(x, "1111");
            Due.is("all seen: on", x.played(1), 4);
            go(x, "11101");
            Due.is("one behind the drain: first", x.played(1), 0);
            x = with("add;", "drain;again;");
            go(x, "011");
            Due.is("as the last one, all seen: first, too", x.played(1), 0);
        });
        Sentence.term(3, "'sleep' (only if a notice waits: that is gone).", () -> {
            RingMarks x = with("kick;kick;", "sleep;drain;");
            Due.is("none waits", play(x, "1"), 0);
            go(x, "01");
            Due.same("gone", numbers(x), "1 1 0 0 0 0 0 0 1 0");
            go(x, "011");
            Due.is("none waits again", play(x, "0111"), 3);
        });
        Sentence.term(3, "Behind its last STEP it goes on at its first one.", () -> {
            RingMarks x = with("", FULL_DEVICE.replace("sleep", "arm"));
            for (int k = 0; k <= 11; k++) {
                go(x, "1".repeat(k));
                Due.is("behind " + k, x.played(1), k % 5);
            }
            x = with("add;", "");
            go(x, "0");
            Due.is("not the driver", play(x, "00"), 1);
            Due.is("it is behind its last", x.played(0), 1);
        });
        Sentence.term(3, "At most one notice waits.", () -> {
            RingMarks x = with("kick;kick;kick;", "sleep;");
            Due.is("two sent, one gone", play(x, "0011"), 3);
            Due.is("none waits", x.played(7) * 10 + x.played(8), 2);
            go(x, "0010");
            Due.is("one waits", x.played(7) * 10 + x.played(8), 13);
        });
    }

    private static void faults() {
        Sentence.term(3, "FAULTS, as for a CHAIN: the first place at which what stands there can't come (a word, a number: at its first byte, a "
            + "number above 999, too, and one STEP, PART too many; the end: how many bytes there are).", () -> {
                String[] steps = {"add", " add ", "add;  x;", "add;  addx;", "add x", "add;;", "; add;", FULL_DRIVER + " tell;", FULL_DRIVER + " x",
                    FULL_DRIVER + ";", "add;tell", "add;tell "};
                int[] at = {3, 5, 6, 6, 4, 4, 0, 39, 39, 38, 8, 9};
                RingMarks x = Bench.split(8, 0);
                for (int k = 0; k < steps.length; k++) {
                    Due.is("steps '" + steps[k] + "'", Due.steps(x, steps[k], 0), -1000 - at[k]);
                }
                String eight = "r1r2r3r4r5r6r7r8";
                String[] chains = {"", " ", "r", "r ", " x", "r5 x", "r5  5", "r 1000", "r 01000", "r5w 99999", eight + " w9", eight + "x", "w", "r5w",
                    "rw5", "r5ww"};
                int[] places = {0, 1, 1, 2, 1, 3, 4, 2, 2, 4, 17, 16, 1, 3, 1, 3};
                for (int k = 0; k < chains.length; k++) {
                    Due.is("chain '" + chains[k] + "'", Bench.direct(x, chains[k]), -1000 - places[k]);
                }
                Due.is("of two the first", Bench.direct(x, "r5x r1000"), -1002);
                Due.is("of two the first", Bench.direct(x, "r1000x"), -1001);
            });
    }

    private static void goingOn() {
        Sentence.term(3, "Each STATE (of what was done so far by both) can go on by the DRIVER's next STEP, if there is one, or by the DEVICE's "
            + "(if it has any, and is not at a 'sleep' without a notice).", () -> {
                RingMarks x = with("", "");
                Due.is("neither has any", play(x, "0") + play(x, "1"), 0);
                Due.is("one state", x.states(), 1);
                x = with("add;add;", "");
                Due.is("the driver alone", play(x, "00"), 2);
                Due.is("no device", play(x, "1"), 0);
                Due.is("three states", x.states(), 3);
                x = with("", "arm;drain;");
                Due.is("the device alone", play(x, "1111"), 4);
                Due.is("no driver", play(x, "0"), 0);
                Due.is("two states", x.states(), 2);
                x = with("kick;", "sleep;arm;");
                Due.is("at a sleep without a notice", play(x, "1"), 0);
                Due.is("with one", play(x, "01101"), 3);
                Due.is("0, kicked, awake, asleep again", x.states(), 4);
            });
    }

    private static void missed() {
        Sentence.term(3, "MISSED is a STATE in which the DRIVER has no more STEPS, the DEVICE can't go on, and has not seen all that are there.", () -> {
            RingMarks x = with("add;add;", "sleep;drain;");
            go(x, "0");
            Due.is("the driver has one more", x.played(9), 0);
            go(x, "00");
            Due.is("missed", x.played(9), 1);
            x = with("add;kick;", "sleep;drain;");
            go(x, "00");
            Due.is("a notice waits", x.played(9), 0);
            go(x, "001");
            Due.is("it can go on", x.played(9), 0);
            go(x, "0011");
            Due.is("all was seen", x.played(9), 0);
            x = with("add;", "");
            go(x, "0");
            Due.is("no device", x.played(9), 1);
            x = with("kick;", "");
            go(x, "0");
            Due.is("none is there", x.played(9), 0);
            x = with("add;", "arm;");
            go(x, "0");
            Due.is("it never sleeps", x.played(9), 0);
            Due.is("none", x.missed() + x.misses(), -1);
        });
    }

    /** In each pair of programs just one number tells states apart that are else the same. */
    private static void alike() {
        Sentence.term(3, "STATES are alike, if both are at the same STEP, all numbers told (how many there are, were seen, the event, that looked "
            + "at, at the last 'tell', whether a notice waits, how many were sent) are.", () -> {
                String[][] programs = {{"add;add;", ""}, {"", "arm;arm;arm;"}, {"add;", "drain;"}, {"add;", "drain;arm;"},
                    {"add;read;", "drain;arm;"}, {"add;tell;", ""}, {"kick;kick;", "sleep;"}, {"add;read;tell;", "drain;arm;"},
                    {FULL_DRIVER, FULL_DEVICE}, {"add;add;tell;read;add;tell;", "drain;arm;again;sleep;"}};
                for (String[] p : programs) {
                    StepsTest.Oracle o = new StepsTest.Oracle(words(p[0]), words(p[1]));
                    RingMarks x = with(p[0], p[1]);
                    Due.is("states of " + p[0] + " / " + p[1], x.states(), o.states());
                }
                Due.is("there, and the driver's step", with("add;add;", "").states(), 3);
                Due.is("the device's step", with("", "arm;arm;arm;").states(), 3);
                Due.is("seen", with("add;", "drain;").states(), 3);
                Due.is("the event", with("add;", "drain;arm;").states(), 7);
                Due.is("whether a notice waits", with("kick;kick;", "sleep;").states(), 5);
            });
    }

    private static String[] words(String text) {
        return text.isEmpty() ? new String[0] : text.split(";");
    }

    private static void promiseOfSteps() {
        Sentence.promise(26, "The tape is the DRIVER (0), the DEVICE (1) now: how many STEPS;", () -> {
            RingMarks x = with("add;", "drain;arm;");
            Due.is("driver, device", x.count(5) * 10 + x.count(6), 12);
            Due.is("anew", Due.steps(x, FULL_DRIVER, 0), 8);
            Due.is("fewer", Due.steps(x, "kick;", 0), 1);
            Due.is("the device stays", x.count(5) * 10 + x.count(6), 12);
            Due.is("none any more", Due.steps(x, "", 1), 0);
            Due.is("driver, device", x.count(5) * 10 + x.count(6), 10);
            x.feed(0x6164643B, 0, 0, 0, 0);
            x.end(4);
            x.steps(0);
            Due.is("the tape is empty then", x.count(4), 0);
        });
        Sentence.promise(26, "-2: another side;", () -> {
            RingMarks x = with("add;", "drain;arm;");
            for (int side : new int[] {-1, 2, Integer.MIN_VALUE, Integer.MAX_VALUE}) {
                Due.is("side " + side, Due.steps(x, "kick;kick;kick;", side), -2);
                Due.is("ahead of a fault", Due.steps(x, "x", side), -2);
                Due.is("the tape is empty then", x.count(4), 0);
            }
            Due.is("both stay", x.count(5) * 10 + x.count(6), 12);
        });
        Sentence.promise(26, "-1000 less the place of a FAULT (more than 80 bytes: 80, nothing is read): it stays.", () -> {
            RingMarks x = with("add;", "drain;arm;");
            go(x, "01");
            String before = numbers(x);
            int states = x.states();
            Due.is("a fault", Due.steps(x, "kick;kick", 0), -1009);
            Due.is("the tape is empty then", x.count(4), 0);
            Due.is("a fault", Due.steps(x, "arm;x", 1), -1004);
            Due.is("too long", Due.steps(x, "x" + " ".repeat(80), 1), -1080);
            Due.is("both stay", x.count(5) * 10 + x.count(6), 12);
            Due.is("the same states", x.states(), states);
            Due.same("where it came to stays, too", numbers(x), before);
            go(x, "01");
            Due.same("they are the same steps", numbers(x), before);
        });
    }

    private static void promisesOfStates() {
        Sentence.promise(27, "STATES that can be come to (the first one, too);", () -> {
            Due.is("the first one", new RingMarks().states(), 1);
            Due.is("add", with("add;", "").states(), 2);
            Due.is("add, drain", with("add;", "drain;").states(), 3);
            RingMarks x = with(FULL_DRIVER, FULL_DEVICE);
            int many = x.states();
            Due.is("the same again", x.states(), many);
            Due.steps(x, "", 0);
            Due.steps(x, "", 1);
            Due.is("new steps", x.states(), 1);
        });
        // No two programs come to more than 1486 (all were gone through), so there is no call that answers NONE.
        Sentence.promise(27, "NONE: more than 4000.", () -> {
            RingMarks x = with("kick;add;add;add;read;add;add;add;", "drain;arm;drain;again;sleep;");
            Due.is("the most there are", x.states(), 1486);
        });
        Sentence.promise(30, "How many MISSED STATES can be come to; NONE: more than 4000 STATES.", () -> {
            Due.is("none", new RingMarks().misses(), 0);
            Due.is("one", with("add;", "").misses(), 1);
            Due.is("at each number seen", with("add;add;add;", "drain;sleep;").misses(), 3);
            Due.is("none, looked at again", with("add;read;tell;", "drain;arm;again;sleep;").misses(), 0);
            Due.is("of the most there are", with("kick;add;add;add;read;add;add;add;", "drain;arm;drain;again;sleep;").misses() >= 0, true);
            RingMarks x = with("add;add;add;", "drain;sleep;");
            Due.is("three", x.misses(), 3);
            Due.is("the same again", x.misses(), 3);
            Due.steps(x, "add;", 0);
            Due.is("one with other steps", x.misses(), 1);
            Due.steps(x, "kick;", 0);
            Due.is("none with other steps", x.misses(), 0);
        });
    }

    private static void promisesOfMissed() {
        Sentence.promise(28, "The fewest STEPS by which a MISSED one is come to; NONE: by none, there are more than 4000 STATES.", () -> {
            Due.is("no steps", new RingMarks().missed(), -1);
            Due.is("one", with("add;", "").missed(), 1);
            Due.is("to the sleep first", with("add;", "drain;sleep;").missed(), 2);
            Due.is("eight", with("add;add;add;add;add;add;add;add;", "").missed(), 8);
            Due.is("by none", with("add;kick;", "sleep;drain;").missed(), -1);
            RingMarks x = with("add;", "");
            x.missed();
            Due.steps(x, "kick;", 0);
            Due.is("by none now", x.missed(), -1);
        });
        Sentence.promise(29, "Whose the i-th (from 0) of these is, by the latest missed() that was not NONE: 0 the DRIVER's, 1 the DEVICE's (of rows of "
            + "the fewest the first: the DRIVER's first);", () -> {
                RingMarks x = with("add;", "drain;sleep;");
                x.missed();
                // Drain and add can come in one order alone: behind an add the drain would see it.
                Due.same("drain, add", row(x), "10");
                x = with("add;", "arm;sleep;");
                x.missed();
                Due.same("add ahead of arm", row(x), "01");
                x = with("kick;add;add;", "sleep;arm;sleep;");
                x.missed();
                Due.same("the driver's first wherever it can", row(x), "00011");
                play(x, row(x));
                Due.is("it is missed", x.played(9), 1);
                Due.steps(x, "kick;", 0);
                Due.is("none", x.missed(), -1);
                Due.same("that was not NONE", row(x), "00011");
                Due.steps(x, "add;", 0);
                Due.same("not ahead of missed()", row(x), "00011");
                x.states();
                x.misses();
                x.notices(0);
                Due.same("not by other calls", row(x), "00011");
                Due.is("two", x.missed(), 1);
                Due.same("the latest", row(x), "0");
            });
        Sentence.promise(29, "NONE: none such, or ahead of any.", () -> {
            RingMarks x = with("add;", "drain;sleep;");
            Due.is("ahead of any", x.missedBy(0), -1);
            x.states();
            Due.is("ahead of any missed()", x.missedBy(0), -1);
            x.missed();
            Due.is("the last", x.missedBy(1), 0);
            Due.is("one more", x.missedBy(2), -1);
            Due.is("below 0", x.missedBy(-1), -1);
            Due.is("far off", x.missedBy(Integer.MAX_VALUE) + x.missedBy(Integer.MIN_VALUE), -2);
        });
    }

    private static void promisesOfPlay() {
        Sentence.promise(31, "From the first STATE on the tape tells whose STEP is done, byte by byte (0 the DRIVER's, 1 the DEVICE's): how many are "
            + "done ahead of the first one that can't be (another byte, too).", () -> {
                RingMarks x = with("add;add;", "drain;");
                Due.is("an empty tape", x.play(), 0);
                Due.is("all", play(x, "0101"), 4);
                Due.is("no third of the driver's", play(x, "0001"), 2);
                Due.is("from the first state on", play(x, "0"), 1);
                Due.same("from the first state on", numbers(x), "1 0 1 0 0 0 0 0 0 0");
                Due.is("another byte", play(x, "0121"), 2);
                Due.same("none behind it", numbers(x), "1 0 1 1 0 0 0 0 0 0");
                Due.feed(x, new byte[] {0, (byte) 128});
                Due.is("128", x.play(), 1);
                Due.feed(x, new byte[] {(byte) 255});
                Due.is("255", x.play(), 0);
                Due.same("the first state", numbers(x), "0 0 0 0 0 0 0 0 0 0");
                Due.is("a hundred", play(x, "1".repeat(100)), 100);
                Due.is("the tape is empty then", x.count(4), 0);
                play(x, "3");
                Due.is("the tape is empty then, too", x.count(4), 0);
            });
        Sentence.promise(32, "Where that came to (the first STATE ahead of any, and behind steps() that was taken):", () -> {
            RingMarks x = new RingMarks();
            Due.same("ahead of any", numbers(x), "0 0 0 0 0 0 0 0 0 0");
            Due.steps(x, "add;add;", 0);
            go(x, "00");
            Due.same("there", numbers(x), "2 0 2 0 0 0 0 0 0 1");
            Due.steps(x, "x", 0);
            Due.steps(x, "add;", 2);
            Due.same("steps() that were not taken", numbers(x), "2 0 2 0 0 0 0 0 0 1");
            Due.steps(x, "arm;", 1);
            Due.same("a device was taken", numbers(x), "0 0 0 0 0 0 0 0 0 0");
            go(x, "01");
            x.states();
            x.missed();
            Due.same("other calls leave it", numbers(x), "1 0 1 0 0 0 0 0 0 0");
            Due.steps(x, "add;add;", 0);
            Due.same("a driver was taken", numbers(x), "0 0 0 0 0 0 0 0 0 0");
        });
        Sentence.promise(32, "0 at which STEP (from 0) the DRIVER is, 1 the DEVICE, 2 how many there are, 3 were seen, 4 the event, 5 that looked at, "
            + "6 how many at the last 'tell', 7 whether a notice waits (1, 0), 8 notices sent, 9 it is MISSED (1, 0).", () -> {
                RingMarks x = with("add;add;read;tell;add;add;add;kick;", "drain;arm;sleep;");
                go(x, "0110001");
                Due.same("told, and awake", numbers(x), "4 0 2 1 1 1 2 0 1 0");
                go(x, "0110001100001");
                Due.same("kicked ahead of its sleep", numbers(x), "8 2 5 2 2 1 2 1 2 0");
                x = with("add;add;", "drain;sleep;");
                go(x, "100");
                Due.same("missed", numbers(x), "2 1 2 0 0 0 0 0 0 1");
            });
        Sentence.promise(32, "NONE for another what.", () -> {
            RingMarks x = new RingMarks();
            for (int what : new int[] {-1, 10, Integer.MIN_VALUE, Integer.MAX_VALUE}) {
                Due.is("what " + what, x.played(what), -1);
            }
        });
    }

    private static void promiseOfNotices() {
        Sentence.promise(33, "Of STATES in which the DRIVER has no more STEPS: the fewest (0), the most (1) notices sent;", () -> {
            RingMarks x = new RingMarks();
            Due.is("no steps", x.notices(0) * 10 + x.notices(1), 0);
            x = with("kick;kick;kick;kick;kick;kick;kick;kick;", "");
            Due.is("eight", x.notices(0) * 10 + x.notices(1), 88);
            x = with("add;read;tell;", "drain;arm;again;sleep;");
            Due.is("none or one", x.notices(0) * 10 + x.notices(1), 1);
            x = with("kick;add;read;tell;", "drain;arm;");
            Due.is("one or two", x.notices(0) * 10 + x.notices(1), 12);
            x = with("add;tell;add;tell;", "");
            Due.is("one", x.notices(0) * 10 + x.notices(1), 11);
            Due.steps(x, "kick;kick;kick;", 0);
            Due.is("three with other steps", x.notices(0) * 10 + x.notices(1), 33);
            Due.steps(x, "add;", 0);
            Due.is("none with other steps", x.notices(0) * 10 + x.notices(1), 0);
        });
        Sentence.promise(33, "NONE for another what, more than 4000 STATES.", () -> {
            RingMarks x = with("kick;", "");
            for (int what : new int[] {-1, 2, Integer.MIN_VALUE, Integer.MAX_VALUE}) {
                Due.is("what " + what, x.notices(what), -1);
            }
        });
    }
}
