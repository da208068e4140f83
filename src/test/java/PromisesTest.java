/** The document's promises 1 to 16, sentence by sentence, with every edge and every refused call. */
public final class PromisesTest {
    private static final int NONE = WatchBill.NONE;
    private static final int LOWEST = Integer.MIN_VALUE;
    private static final int HIGHEST = Integer.MAX_VALUE;

    public static void main(String[] args) {
        atMost512Calls();
        promise1NewObject();
        promise2TwentyBytesComeBehind();
        promise2NoneComeBeyond400();
        promise3FirstNBytesAlone();
        promise3NothingIsDone();
        promise4HowManyBills();
        promise4AllBeginsAnew();
        promise4FaultAllStays();
        promise5FaultOfTheLatestText();
        promise5NoneForOthersAndAheadOfAny();
        promise6ItsNumber();
        promise6NoneForOthers16OrBehindBell0();
        promise7SickInPlaceOfThoseLeft();
        promise7FalseForOthers();
        promise8OfAHand();
        promise8NoneForOthers();
        promise9OfABill();
        promise9NoneForOthers();
        promise10WatchFromNowOn();
        promise10NoneForOthers();
        promise11OrdersNumber();
        promise11NoSuchBill60OrCantBeFilled();
        promise12OfAnOrder();
        promise12NoneForOthers();
        promise13HowManyCouldBeFilled();
        promise13NoneForOthers();
        promise14BellsAreWorked();
        promise14NoneForOthersOrBeyond20000();
        promise15TheFirst200AreKept();
        promise15NoneIfThereIsNoneSuch();
        promise15OfOneBellByHands();
        promise16About();
        promise16NoneForOthers();
        Check.finish();
    }

    private static void atMost512Calls() {
        Check.says("What it is", "An object is used for at most 512 calls after it has been made; "
            + "what later calls answer is free.");
        // Two feeds, end, text, two hands: six calls; then 252 orders, given or refused, each with a bell.
        WatchBill x = new WatchBill();
        String text = "bill x 5:a 1;rest 1 1 0;";
        x.feed(Check.four(text, 0), Check.four(text, 4), Check.four(text, 8), Check.four(text, 12),
            Check.four(text, 16));
        x.feed(Check.four(text, 20), Check.four(text, 24), Check.four(text, 28), Check.four(text, 32),
            Check.four(text, 36));
        x.end(24);
        x.text();
        x.hand(1, 1);
        x.hand(0, 0);
        for (int i = 0; i < 252; i++) {
            Check.due("order at bell " + i, x.order(0), i % 5 == 0 ? i / 5 : NONE);
            Check.due("bell", x.bells(1), i + 1);
        }
        Check.due("call 511", x.about(4), 504);
        Check.due("call 512", x.breach(199, 2), NONE);
        // The dearest run: 16 hands, twelve stations, and bells up to the last.
        WatchBill y = Check.ship("least 16;dull 8;learn 1;rest 96 96 96;bill x 48:a 8 b 4;");
        for (int h = 0; h < 16; h++) {
            y.hand(h % 3, 3);
        }
        for (int o = 0; o < 60; o++) {
            Check.due("order", y.order(0), o);
            y.bells(48);
        }
        for (int i = 0; i < 35; i++) {
            y.bells(480);
        }
        Check.due("bells", y.bells(320), 20000);
        Check.due("breaches", y.about(4), 16 * (20000 - 95));
    }

    private static void promise1NewObject() {
        Check.says("Promise 1", "No hands, a text without clauses, bell 0.");
        WatchBill x = new WatchBill();
        int[] about = {0, 0, 0, 0, 0, 0, 48, 48, 0, 0, 0, 0, 0};
        for (int what = 0; what < about.length; what++) {
            Check.due("about " + what, x.about(what), about[what]);
        }
        Check.same("as behind an empty text", Check.state(x), Check.state(Check.ship("")));
        Check.due("no hands", x.handOf(0, 0), NONE);
        Check.due("no bills", x.bill(0, 0), NONE);
        Check.due("no orders", x.ordered(0, 0), NONE);
        Check.due("no breaches", x.breach(0, 0), NONE);
        Check.due("watch", x.watch(47), 0);
        Check.due("a hand can come, for it is bell 0", x.hand(2, 63), 0);
        Check.due("bell 0 can be worked", x.bells(1), 1);
        Check.places(x, 0);
        WatchBill watched = new WatchBill();
        watched.hand(0, 63);
        watched.bells(1);
        Check.places(watched, 1);
        // A second object knows nothing of the first.
        Check.due("another object", new WatchBill().about(0), 0);
    }

    private static int feed(WatchBill x, String twenty) {
        return x.feed(Check.four(twenty, 0), Check.four(twenty, 4), Check.four(twenty, 8),
            Check.four(twenty, 12), Check.four(twenty, 16));
    }

    private static void promise2TwentyBytesComeBehind() {
        Check.says("Promise 2", "Twenty bytes come behind the tape, the highest of a first: how many it has.");
        WatchBill x = new WatchBill();
        for (int n = 1; n <= 20; n++) {
            Check.due("feed " + n, feed(x, "                    "), 20 * n);
            Check.due("the tape has", x.about(5), 20 * n);
        }
        // A fault's place tells where each byte came to: the only sign among blanks.
        for (int at = 0; at < 20; at++) {
            for (int sign : new int[] {0, 1, 127, 128, 255}) {
                StringBuilder twenty = new StringBuilder("                    ");
                twenty.setCharAt(at, (char) sign);
                WatchBill y = new WatchBill();
                feed(y, "\n\n\n\n\n\n\n\n\n\n\n\n\n\n\n\n\n\n\n\n");
                Check.due("feed", feed(y, twenty.toString()), 40);
                Check.due("text", y.text(), NONE);
                Check.due("fault", y.fault(0), 1);
                Check.due("place", y.fault(1), 20 + at);
            }
        }
        WatchBill z = new WatchBill();
        z.feed(0x6c656173, 0x74203132, 0x3b64756c, 0x6c20373b, 0x6c656172);
        z.feed(0x6e203939, 0x3b202020, 0x0a0a0a0a, 0x20202020, 0x20202020);
        Check.due("least 12;dull 7;learn 99;", z.text(), 0);
        Check.due("dull", z.about(10), 7);
        Check.due("learn", z.about(11), 99);
        Check.due("least", z.about(12), 12);
    }

    private static void promise2NoneComeBeyond400() {
        Check.says("Promise 2", "NONE, and none come, if there would be more than 400.");
        for (int length = 379; length <= 400; length++) {
            WatchBill x = new WatchBill();
            for (int n = 0; n < 20; n++) {
                feed(x, "                    ");
            }
            x.end(length);
            boolean fits = length + 20 <= 400;
            Check.due("feed behind " + length, feed(x, "####################"), fits ? length + 20 : NONE);
            Check.due("the tape then", x.about(5), fits ? length + 20 : length);
            Check.due("feed again", feed(x, "####################"), NONE);
            Check.due("the text of it", x.text(), fits ? NONE : 0);
            Check.due("its fault", x.fault(1), fits ? length : NONE);
            Check.due("behind the text there is room", feed(x, "####################"), 20);
        }
    }

    private static void promise3FirstNBytesAlone() {
        Check.says("Promise 3", "The tape has its first n bytes alone: n.");
        for (int n = 0; n <= 20; n++) {
            WatchBill x = new WatchBill();
            feed(x, "####################");
            Check.due("end " + n, x.end(n), n);
            Check.due("the tape then", x.about(5), n);
            Check.due("the text of it", x.text(), n == 0 ? 0 : NONE);
        }
        WatchBill y = new WatchBill();
        feed(y, "dull 3;#############");
        y.end(7);
        Check.due("what comes then comes behind", feed(y, "least 4;############"), 27);
        y.end(15);
        Check.due("text", y.text(), 0);
        Check.due("dull", y.about(10), 3);
        Check.due("least", y.about(12), 4);
        WatchBill full = new WatchBill();
        for (int i = 0; i < 20; i++) {
            feed(full, "                    ");
        }
        Check.due("end of a full tape", full.end(400), 400);
        Check.due("end of an empty tape", new WatchBill().end(0), 0);
    }

    private static void promise3NothingIsDone() {
        Check.says("Promise 3", "NONE, and nothing is done, if it has not so many, or n is below 0.");
        WatchBill x = new WatchBill();
        Check.due("end 1 of none", x.end(1), NONE);
        feed(x, "dull 3;             ");
        int[] others = {21, 40, 400, 401, HIGHEST, -1, -20, LOWEST};
        for (int n : others) {
            Check.due("end " + n, x.end(n), NONE);
            Check.due("the tape then", x.about(5), 20);
        }
        x.end(7);
        Check.due("the bytes that went don't come again", x.end(8), NONE);
        Check.due("the tape then", x.about(5), 7);
        Check.due("text", x.text(), 0);
        Check.due("dull", x.about(10), 3);
        Check.due("the tape is empty: end 1", x.end(1), NONE);
        Check.due("the tape is empty: end 0", x.end(0), 0);
    }

    private static void promise4HowManyBills() {
        Check.says("Promise 4", "The tape (empty then) is the text: how many bills.");
        StringBuilder text = new StringBuilder();
        for (int b = 0; b <= 8; b++) {
            WatchBill x = new WatchBill();
            Check.due("text of " + b + " bills", Check.text(x, text.toString()), b);
            Check.due("bills", x.about(1), b);
            Check.due("the tape then", x.about(5), 0);
            Check.due("the empty tape is a text, too", x.text(), 0);
            Check.due("bills then", x.about(1), 0);
            text.append("bill ").append((char) ('p' + b)).append(" 1:a 1;");
        }
        WatchBill y = new WatchBill();
        Check.due("a faulty text", Check.text(y, "#"), NONE);
        Check.due("the tape is empty then, too", y.about(5), 0);
    }

    private static final String BUSY =
        "watch 1 2 0 3;rest 2 2 0;dull 1;learn 1;least 3;bill x 1:a 1;bill y 9:a 1;";

    /** Three hands, of whom one learned a skill, fills, turns and breaches; an order lasts. */
    private static WatchBill busyShip() {
        WatchBill x = Check.ship(BUSY, 1, 1, 1, 0, 2, 1);
        x.order(0);
        x.bells(2);
        x.order(1);
        x.sick(2, 5);
        return x;
    }

    private static void promise4AllBeginsAnew() {
        Check.says("Promise 4", "All begins anew: bell 0, no ORDERS, nobody SICK, no turns, FILLS, "
            + "BREACHES, LEARNED (hands with WATCH and skills stay).");
        WatchBill x = busyShip();
        Check.due("the same text again", Check.text(x, BUSY), 2);
        // Hand 1 learned skill a, and keeps it.
        WatchBill fresh = Check.ship(BUSY, 1, 1, 1, 1, 2, 1);
        Check.same("as a new one with these hands", Check.state(x), Check.state(fresh));
        Check.due("hand at bell 0", x.hand(0, 0), fresh.hand(0, 0));
        Check.due("order", x.order(1), fresh.order(1));
        x.bells(7);
        fresh.bells(7);
        Check.same("and goes on as a new one", Check.state(x), Check.state(fresh));
        WatchBill y = busyShip();
        Check.due("an empty text", y.text(), 0);
        WatchBill plain = Check.ship("", 1, 1, 1, 1, 2, 1);
        y.bells(50);
        plain.bells(50);
        Check.same("as a new one without clauses", Check.state(y), Check.state(plain));
        restsBeginAnew();
    }

    /** The free bells and the stations ahead of a text aren't among the last ones behind it. */
    private static void restsBeginAnew() {
        String[] rests = {"rest 3 1 0;", "rest 3 0 1;", "rest 3 0 2;", "rest 3 3 0;", "rest 3 2 2;"};
        for (String rest : rests) {
            for (int sickAhead = 0; sickAhead < 5; sickAhead++) {
                for (int sickBehind = 0; sickBehind < 4; sickBehind++) {
                    String text = rest + "bill x 1:a 1;";
                    WatchBill x = Check.ship(text, 0, 1);
                    WatchBill fresh = Check.ship(text, 0, 1);
                    x.order(0);
                    x.bells(7);
                    x.order(0);
                    x.bells(1);
                    x.sick(0, sickAhead);
                    x.bells(4);
                    Check.text(x, text);
                    x.sick(0, sickBehind);
                    fresh.sick(0, sickBehind);
                    x.bells(5);
                    fresh.bells(5);
                    Check.same("rests begin anew", Check.state(x), Check.state(fresh));
                }
            }
        }
    }

    private static void promise4FaultAllStays() {
        Check.says("Promise 4", "NONE: it has a FAULT, all stays.");
        String[] faulty = {"#", "dull 8;dull", "watch 2 1;rest 1 1 1;bill z 1:f 8;learn 9;least 0;dull 9;",
            "bill x 2:b 1;bill x", "watch", "least 17;"};
        for (String text : faulty) {
            WatchBill x = busyShip();
            WatchBill same = busyShip();
            Check.due("text of [" + text + "]", Check.text(x, text), NONE);
            Check.same("behind [" + text + "]", Check.state(x), Check.state(same));
            x.bells(9);
            same.bells(9);
            Check.same("and on behind [" + text + "]", Check.state(x), Check.state(same));
        }
        WatchBill x = new WatchBill();
        Check.due("a fault in the first text", Check.text(x, "dull 5;#"), NONE);
        Check.same("as new", Check.state(x), Check.state(new WatchBill()));
    }

    private static void promise5FaultOfTheLatestText() {
        Check.says("Promise 5", "Of the latest text(): 0 its FAULT (0 without), 1 its place (NONE without).");
        WatchBill x = new WatchBill();
        String[] texts = {"dull 9;", "", "#", "dull 1;dull", "bill x 1:a 8 b 8;", "bill x 1:a 1;", "dull"};
        int[][] due = {{3, 5}, {0, NONE}, {1, 0}, {2, 7}, {4, 15}, {0, NONE}, {1, 4}};
        for (int i = 0; i < texts.length; i++) {
            Check.text(x, texts[i]);
            Check.due("fault 0 of [" + texts[i] + "]", x.fault(0), due[i][0]);
            Check.due("fault 1 of [" + texts[i] + "]", x.fault(1), due[i][1]);
            // What is on the tape isn't a text yet.
            feed(x, "####################");
            x.bells(1);
            Check.due("fault 0 later", x.fault(0), due[i][0]);
            Check.due("fault 1 later", x.fault(1), due[i][1]);
        }
    }

    private static void promise5NoneForOthersAndAheadOfAny() {
        Check.says("Promise 5", "NONE for others, and ahead of any.");
        WatchBill x = new WatchBill();
        Check.due("ahead of any: fault 0", x.fault(0), NONE);
        Check.due("ahead of any: fault 1", x.fault(1), NONE);
        feed(x, "####################");
        Check.due("ahead of text: fault 0", x.fault(0), NONE);
        int[] others = {-1, 2, 3, 100, LOWEST, HIGHEST};
        for (int round = 0; round < 3; round++) {
            for (int what : others) {
                Check.due("fault " + what, x.fault(what), NONE);
            }
            x.text();
        }
    }

    private static void promise6ItsNumber() {
        Check.says("Promise 6", "A hand: its number.");
        WatchBill x = new WatchBill();
        for (int h = 0; h < 16; h++) {
            Check.due("hand", x.hand(h % 3, h * 4 + 3), h);
            Check.due("its WATCH", x.handOf(h, 0), h % 3);
            Check.due("its skills", x.handOf(h, 1), h * 4 + 3);
            Check.due("hands", x.about(0), h + 1);
        }
        // A hand that comes behind an order at bell 0 serves as the others do.
        WatchBill y = Check.ship("bill x 1:a 1;", 0, 1);
        y.order(0);
        Check.due("hand", y.hand(0, 1), 1);
        Check.due("order", y.order(0), 1);
        Check.stations(y, 1, 1);
    }

    private static void promise6NoneForOthers16OrBehindBell0() {
        Check.says("Promise 6", "NONE for others, if there are 16, or behind bell 0.");
        int[][] others = {{-1, 0}, {3, 0}, {LOWEST, 0}, {HIGHEST, 0}, {0, -1}, {0, 64}, {0, LOWEST},
            {0, HIGHEST}, {3, 64}, {-1, -1}};
        WatchBill x = Check.ship("", 0, 0);
        for (int[] other : others) {
            Check.due("hand " + other[0] + " " + other[1], x.hand(other[0], other[1]), NONE);
            Check.due("hands", x.about(0), 1);
        }
        for (int h = 1; h < 16; h++) {
            Check.due("hand", x.hand(2, 63), h);
        }
        Check.due("the 17th", x.hand(0, 0), NONE);
        Check.due("hands", x.about(0), 16);
        Check.due("no 17th", x.handOf(16, 0), NONE);
        x.text();
        Check.due("they stay behind a text: the 17th", x.hand(0, 0), NONE);
        WatchBill y = Check.ship("", 0, 0);
        y.bells(1);
        Check.due("behind bell 0", y.hand(0, 0), NONE);
        y.bells(480);
        Check.due("far behind bell 0", y.hand(0, 0), NONE);
        Check.due("hands", y.about(0), 1);
        Check.text(y, "#");
        Check.due("behind a faulty text", y.hand(0, 0), NONE);
        y.text();
        Check.due("bell 0 again", y.hand(0, 0), 1);
    }

    private static void promise7SickInPlaceOfThoseLeft() {
        Check.says("Promise 7", "A hand is SICK for so many bells (0 .. 480; in place of those that were left): true.");
        WatchBill x = Check.ship("", 0, 0, 0, 0);
        int[] some = {480, 0, 1, 479, 3, 2};
        for (int bells : some) {
            Check.due("sick " + bells, x.sick(1, bells), true);
            Check.allOf("left", x, 2, 0, bells);
        }
        x.bells(1);
        Check.allOf("left", x, 2, 0, 1);
        Check.due("sick for longer", x.sick(1, 2), true);
        x.bells(1);
        Check.places(x, 1, 0);
        Check.due("sick for no bells", x.sick(1, 0), true);
        x.bells(1);
        Check.places(x, 1, 1);
        Check.due("sick", x.sick(1, 480), true);
        x.bells(480);
        Check.places(x, 1, 0);
        x.bells(1);
        Check.places(x, 1, 1);
    }

    private static void promise7FalseForOthers() {
        Check.says("Promise 7", "False for others.");
        Check.due("without hands", new WatchBill().sick(0, 1), false);
        WatchBill x = Check.ship("", 0, 0, 0, 0);
        x.sick(0, 7);
        int[][] others = {{0, -1}, {0, 481}, {0, LOWEST}, {0, HIGHEST}, {-1, 1}, {2, 1}, {15, 1},
            {16, 1}, {LOWEST, 1}, {HIGHEST, 1}, {2, 481}, {-1, 0}};
        for (int[] other : others) {
            Check.due("sick " + other[0] + " " + other[1], x.sick(other[0], other[1]), false);
            Check.allOf("left", x, 2, 7, 0);
        }
        for (int h = 2; h < 16; h++) {
            x.hand(0, 0);
        }
        Check.due("the 16th hand", x.sick(15, 1), true);
        Check.due("the 17th", x.sick(16, 1), false);
    }

    private static void promise8OfAHand() {
        Check.says("Promise 8", "Of a hand: 0 WATCH, 1 skills, 2 bells SICK that are left, 3 GALLEY "
            + "turns, 4 FILLS, 5 BREACHES, 6 bells WORKED, 7 at the latest bell: 1 ON WATCH, 2 FILLING, "
            + "4 AT A STATION, 8 in the GALLEY, together (NONE ahead of one), 10 .. 15: how often it "
            + "LEARNED skill what - 10.");
        WatchBill x = Check.ship("watch 1 3;learn 9;least 2;dull 1;rest 2 1 0;bill p 1:f 1;bill q 1:a 1;",
            1, 33, 1, 0, 2, 4);
        Check.allOf("ahead of one", x, 7, NONE, NONE, NONE);
        for (int i = 0; i < 3; i++) {
            x.order(i == 1 ? 1 : 0);
            x.bells(1);
            // Who learns is on watch alone.
            Check.places(x, 13, 1, 0);
        }
        x.sick(1, 5);
        x.bells(2);
        int[][] due = {{1, 33, 0, 1, 0, 4, 5, 9, NONE, NONE, 0, 0, 0, 0, 0, 0},
            {1, 0, 3, 0, 0, 2, 3, 0, NONE, NONE, 1, 0, 0, 0, 0, 2},
            {2, 4, 0, 0, 2, 1, 2, 2, NONE, NONE, 0, 0, 0, 0, 0, 0}};
        for (int h = 0; h < 3; h++) {
            for (int what = 0; what < 16; what++) {
                Check.due("handOf " + h + " " + what, x.handOf(h, what), due[h][what]);
            }
        }
        // Each of the six skills has a row of its own.
        for (int skill = 0; skill < 6; skill++) {
            WatchBill y = Check.ship("learn 9;bill x 1:" + (char) ('a' + skill) + " 1;", 0, 63, 0, 0);
            y.order(0);
            y.bells(1);
            for (int what = 10; what < 16; what++) {
                Check.due("skill " + skill + ": handOf 1 " + what, y.handOf(1, what), what - 10 == skill ? 1 : 0);
            }
        }
        x.text();
        Check.allOf("ahead of one again", x, 7, NONE, NONE, NONE);
    }

    private static void promise8NoneForOthers() {
        Check.says("Promise 8", "NONE for others.");
        Check.due("without hands", new WatchBill().handOf(0, 0), NONE);
        WatchBill x = Check.ship("", 1, 63, 1, 63);
        x.bells(1);
        int[] whats = {-1, 8, 9, 16, 17, 100, LOWEST, LOWEST + 10, HIGHEST};
        for (int what : whats) {
            Check.due("handOf 1 " + what, x.handOf(1, what), NONE);
        }
        int[] hands = {-1, 2, 3, 15, 16, LOWEST, HIGHEST};
        for (int h : hands) {
            for (int what = 0; what < 16; what++) {
                Check.due("handOf " + h + " " + what, x.handOf(h, what), NONE);
            }
        }
    }

    private static void promise9OfABill() {
        Check.says("Promise 9", "Of a bill: 0 bells, 1 STATIONS, 100 + i: the skill of STATION i.");
        WatchBill x = Check.ship("bill p 48:f 2 a 1 f 1;bill q 1:c 8 d 4;bill r 7:e 1;");
        int[][] skills = {{5, 5, 0, 5}, {2, 2, 2, 2, 2, 2, 2, 2, 3, 3, 3, 3}, {4}};
        int[] bells = {48, 1, 7};
        for (int b = 0; b < 3; b++) {
            Check.due("bells of " + b, x.bill(b, 0), bells[b]);
            Check.due("STATIONS of " + b, x.bill(b, 1), skills[b].length);
            for (int i = 0; i < skills[b].length; i++) {
                Check.due("bill " + b + ", STATION " + i, x.bill(b, 100 + i), skills[b][i]);
            }
            Check.due("behind the last", x.bill(b, 100 + skills[b].length), NONE);
        }
        Check.text(x, "bill z 2:b 1;");
        Check.due("a new text's", x.bill(0, 100), 1);
        Check.due("no more of the old one's", x.bill(0, 101), NONE);
        Check.due("no more of the old ones", x.bill(1, 0), NONE);
    }

    private static void promise9NoneForOthers() {
        Check.says("Promise 9", "NONE for others.");
        WatchBill x = Check.ship("bill p 48:f 8 a 4;bill q 1:c 1;");
        int[] whats = {-1, 2, 3, 10, 99, 112, 113, 200, LOWEST, LOWEST + 100, HIGHEST};
        for (int what : whats) {
            Check.due("bill 0 " + what, x.bill(0, what), NONE);
        }
        Check.due("bill 1 101", x.bill(1, 101), NONE);
        int[] bills = {-1, 2, 7, 8, LOWEST, HIGHEST};
        for (int b : bills) {
            Check.due("bill " + b + " 0", x.bill(b, 0), NONE);
            Check.due("bill " + b + " 1", x.bill(b, 1), NONE);
            Check.due("bill " + b + " 100", x.bill(b, 100), NONE);
        }
        Check.due("without a text", new WatchBill().bill(0, 0), NONE);
    }

    private static void promise10WatchFromNowOn() {
        Check.says("Promise 10", "The WATCH of a bell from now on (0 the next one; 0 .. 1000).");
        int[] round = {2, 2, 2, 0, 1, 1, 2};
        int[] worked = {0, 1, 6, 7, 400};
        for (int bells : worked) {
            for (int from = 0; from <= 1000; from += 400) {
                WatchBill x = Check.ship("watch 2 3 0 1 1 2 2 1;");
                x.bells(bells);
                for (int ahead = from; ahead < from + 400 && ahead <= 1000; ahead++) {
                    Check.due("behind " + bells + " bells: watch " + ahead, x.watch(ahead), round[(bells + ahead) % 7]);
                }
            }
        }
        WatchBill last = Check.ship("watch 0 1 1 2 2 4;");
        for (int i = 0; i < 41; i++) {
            last.bells(480);
        }
        last.bells(320);
        // 20000 and 21000 by rounds of seven: one bell and none.
        Check.due("behind the last bell", last.watch(0), 1);
        Check.due("a thousand on", last.watch(1000), 0);
    }

    private static void promise10NoneForOthers() {
        Check.says("Promise 10", "NONE for others.");
        WatchBill x = new WatchBill();
        int[] others = {-1, -48, 1001, 1048, LOWEST, HIGHEST};
        for (int round = 0; round < 2; round++) {
            for (int ahead : others) {
                Check.due("watch " + ahead, x.watch(ahead), NONE);
            }
            Check.due("watch 1000", x.watch(1000), 0);
            Check.due("watch 0", x.watch(0), 0);
            x.bells(100);
        }
    }

    private static void promise11OrdersNumber() {
        Check.says("Promise 11", "AN ORDER of a bill: its number.");
        WatchBill x = Check.ship("bill p 1:a 1;bill q 2:a 1;", 0, 1, 0, 1);
        Check.due("the first", x.order(1), 0);
        Check.due("the second", x.order(0), 1);
        Check.due("refused", x.order(0), NONE);
        x.bells(1);
        Check.due("the third, in spite of one refused", x.order(0), 2);
        Check.due("orders", x.about(3), 3);
    }

    private static void promise11NoSuchBill60OrCantBeFilled() {
        Check.says("Promise 11", "NONE: no such bill, there are 60, or its STATIONS can't be filled.");
        WatchBill x = Check.ship("learn 2;bill p 1:a 1;bill q 2:a 3;", 0, 1, 0, 0, 0, 1);
        String before = Check.state(x);
        int[] bills = {-1, 2, 7, 8, LOWEST, HIGHEST};
        for (int b : bills) {
            Check.due("order " + b, x.order(b), NONE);
        }
        Check.due("two hands for three stations", x.order(1), NONE);
        Check.same("nothing came of these", Check.state(x), before);
        Check.due("without a text", new WatchBill().order(0), NONE);
        WatchBill y = Check.ship("bill p 1:a 1;", 0, 1);
        for (int o = 0; o < 60; o++) {
            Check.due("order", y.order(0), o);
            y.bells(1);
        }
        Check.due("there are 60", y.order(0), NONE);
        Check.due("though it could be filled", y.could(0), 1);
        y.bells(1);
        Check.places(y, 1);
        Check.due("there are 60 later, too", y.order(0), NONE);
        Check.due("orders", y.about(3), 60);
        Check.text(y, "bill p 1:a 1;");
        Check.due("anew", y.order(0), 0);
    }

    private static void promise12OfAnOrder() {
        Check.says("Promise 12", "Of an ORDER: 0 bill, 1 bells that are left, 2 hands that were called "
            + "from below, 3 LEARNERS, 100 + i: the hand of STATION i, 200 + i: its LEARNER (NONE).");
        WatchBill x = Check.ship("watch 0 1 1 9;learn 9;bill p 1:b 1;bill q 3:a 2 b 1;",
            1, 2, 0, 1, 2, 1, 0, 2, 0, 0);
        Check.due("order", x.order(1), 0);
        Check.due("its bill", x.ordered(0, 0), 1);
        Check.stations(x, 0, 1, 2, 3);
        Check.learners(x, 0, 4, NONE, NONE);
        for (int left = 3; left >= 0; left--) {
            Check.due("bells left", x.ordered(0, 1), left);
            // Called from below as it was given, whatever the watch is now.
            Check.due("called from below", x.ordered(0, 2), 1);
            Check.due("LEARNERS", x.ordered(0, 3), 1);
            x.bells(1);
        }
        Check.stations(x, 0, 1, 2, 3);
        Check.learners(x, 0, 4, NONE, NONE);
        Check.due("order", x.order(0), 1);
        Check.due("its bill", x.ordered(1, 0), 0);
        Check.stations(x, 1, 0);
        Check.due("an ended order is told", x.ordered(0, 0), 1);
    }

    private static void promise12NoneForOthers() {
        Check.says("Promise 12", "NONE for others.");
        WatchBill x = Check.ship("learn 9;bill p 1:a 8 b 4;bill q 1:c 1;");
        for (int h = 0; h < 14; h++) {
            x.hand(0, h == 13 ? 0 : h == 12 ? 4 : 3);
        }
        Check.due("order of twelve", x.order(0), 0);
        Check.due("the last station", x.ordered(0, 111), 11);
        Check.due("the second learner", x.ordered(0, 201), 13);
        int[] whats = {-1, 4, 5, 10, 99, 112, 113, 199, 212, 213, 300, LOWEST, LOWEST + 100,
            LOWEST + 200, HIGHEST};
        for (int what : whats) {
            Check.due("ordered 0 " + what, x.ordered(0, what), NONE);
        }
        int[] orders = {-1, 1, 2, 59, 60, LOWEST, HIGHEST};
        for (int o : orders) {
            for (int what : new int[] {0, 1, 2, 3, 100, 111, 200, 211}) {
                Check.due("ordered " + o + " " + what, x.ordered(o, what), NONE);
            }
        }
        Check.text(x, "bill p 1:a 1;");
        Check.due("a text later", x.ordered(0, 0), NONE);
        // An order with fewer stations in the place of one with twelve.
        x.order(0);
        Check.due("its second station", x.ordered(0, 101), NONE);
        Check.due("its second learner", x.ordered(0, 201), NONE);
    }

    private static void promise13HowManyCouldBeFilled() {
        Check.says("Promise 13", "How many STATIONS of a bill could be filled at most, as it is.");
        WatchBill x = Check.ship("bill p 1:a 3 b 1 c 2;bill q 1:f 8 e 4;");
        Check.due("no hands", x.could(0), 0);
        int[][] hands = {{1, 1}, {2, 6}, {0, 2}, {0, 2}, {0, 63}, {0, 0}, {1, 62}};
        int[] due = {1, 2, 3, 3, 4, 4, 5};
        for (int h = 0; h < hands.length; h++) {
            x.hand(hands[h][0], hands[h][1]);
            Check.due("with " + (h + 1) + " hands", x.could(0), due[h]);
        }
        Check.due("of the other bill", x.could(1), 2);
        // As it is: without those that are sick, at stations or learn.
        x.sick(0, 1);
        Check.due("one is sick", x.could(0), 4);
        x.sick(0, 0);
        Check.due("none is sick", x.could(0), 5);
        Check.same("asking changes nothing", Check.state(x), Check.state(x));
        WatchBill y = Check.ship("learn 2;bill p 2:a 1;bill q 1:b 3;", 0, 3, 0, 2, 0, 2);
        Check.due("all", y.could(1), 3);
        y.order(0);
        Check.due("one at a station, one that learns", y.could(1), 1);
        y.bells(2);
        Check.due("the order ended", y.could(1), 3);
        WatchBill full = Check.ship("bill p 1:a 8 b 4;");
        for (int h = 0; h < 16; h++) {
            full.hand(h % 3, 3);
        }
        Check.due("no more than its stations", full.could(0), 12);
    }

    private static void promise13NoneForOthers() {
        Check.says("Promise 13", "NONE for others.");
        Check.due("without a text", new WatchBill().could(0), NONE);
        WatchBill x = Check.ship("bill p 1:a 1;bill q 1:b 1;", 0, 1);
        int[] bills = {-1, 2, 7, 8, LOWEST, HIGHEST};
        for (int b : bills) {
            Check.due("could " + b, x.could(b), NONE);
        }
        Check.due("one that can't be filled isn't such", x.could(1), 0);
    }

    private static void promise14BellsAreWorked() {
        Check.says("Promise 14", "n bells (1 .. 480) are worked: the number of the next one.");
        WatchBill x = Check.ship("", 0, 0);
        int[] some = {1, 480, 2, 479, 47};
        int next = 0;
        for (int n : some) {
            next += n;
            Check.due("bells " + n, x.bells(n), next);
            Check.due("the next one", x.about(2), next);
            Check.due("bells WORKED", x.handOf(0, 6), next);
        }
        // All at once or one by one is the same.
        WatchBill once = busyShip();
        WatchBill singly = busyShip();
        once.bells(60);
        for (int i = 0; i < 60; i++) {
            singly.bells(1);
        }
        Check.same("sixty at once", Check.state(once), Check.state(singly));
    }

    private static void promise14NoneForOthersOrBeyond20000() {
        Check.says("Promise 14", "NONE for others, or if there would be more than 20000.");
        WatchBill x = busyShip();
        String before = Check.state(x);
        int[] others = {0, -1, -480, 481, 1000, LOWEST, HIGHEST};
        for (int n : others) {
            Check.due("bells " + n, x.bells(n), NONE);
        }
        Check.same("none was worked", Check.state(x), before);
        WatchBill y = Check.ship("", 0, 0);
        for (int i = 1; i <= 41; i++) {
            Check.due("bells", y.bells(480), 480 * i);
        }
        Check.due("480 more would be too many", y.bells(480), NONE);
        Check.due("321 more, too", y.bells(321), NONE);
        Check.due("none was worked", y.handOf(0, 6), 19680);
        Check.due("319 more", y.bells(319), 19999);
        Check.due("two more", y.bells(2), NONE);
        Check.due("one more", y.bells(1), 20000);
        Check.due("no more", y.bells(1), NONE);
        Check.due("the highest", y.bells(HIGHEST), NONE);
        Check.due("none was worked", y.handOf(0, 6), 20000);
        y.text();
        Check.due("anew", y.bells(480), 480);
    }

    private static void promise15TheFirst200AreKept() {
        Check.says("Promise 15", "BREACH i (the first 200 are kept): 0 its bell, 1 the hand, 2 its CAUSE.");
        WatchBill x = Check.ship("rest 1 1 0;bill x 7:a 1;", 0, 1);
        x.bells(3);
        x.order(0);
        x.bells(196);
        Check.due("199 breaches", x.about(4), 199);
        Check.due("not yet", x.breach(199, 0), NONE);
        x.bells(1);
        Check.breach(x, 199, 199, 0, NONE);
        x.bells(1);
        Check.due("201 breaches", x.about(4), 201);
        Check.due("the 201st isn't kept", x.breach(200, 0), NONE);
        x.bells(50);
        Check.breach(x, 0, 0, 0, NONE);
        Check.breach(x, 2, 2, 0, NONE);
        Check.breach(x, 3, 3, 0, 0);
        Check.breach(x, 9, 9, 0, 0);
        Check.breach(x, 10, 10, 0, NONE);
        Check.breach(x, 199, 199, 0, NONE);
        Check.due("251 breaches, those not kept too", x.about(4), 251);
        Check.allOf("of the hand", x, 5, 251);
        x.text();
        Check.due("a text later", x.breach(0, 0), NONE);
    }

    private static void promise15NoneIfThereIsNoneSuch() {
        Check.says("Promise 15", "NONE if there is none such.");
        Check.due("of a new object", new WatchBill().breach(0, 0), NONE);
        WatchBill x = Check.ship("rest 1 1 0;bill x 9:a 1;", 0, 1);
        x.order(0);
        x.bells(2);
        int[] others = {-1, 2, 3, 199, 200, 201, LOWEST, HIGHEST};
        for (int i : others) {
            for (int what = 0; what < 3; what++) {
                Check.due("breach " + i + " " + what, x.breach(i, what), NONE);
            }
        }
        int[] whats = {-1, 3, 4, 100, LOWEST, HIGHEST};
        for (int what : whats) {
            Check.due("breach 1 " + what, x.breach(1, what), NONE);
        }
        Check.breach(x, 1, 1, 0, 0);
    }

    private static void promise15OfOneBellByHands() {
        Check.says("Promise 15", "(Of one bell by hands.)");
        WatchBill x = Check.ship("rest 1 1 0;");
        for (int h = 0; h < 16; h++) {
            x.hand(h == 5 ? 1 : 0, 0);
        }
        x.bells(14);
        Check.due("breaches", x.about(4), 210);
        for (int i = 0; i < 200; i++) {
            Check.due("bell of " + i, x.breach(i, 0), i / 15);
            Check.due("hand of " + i, x.breach(i, 1), i % 15 < 5 ? i % 15 : i % 15 + 1);
        }
    }

    private static void promise16About() {
        Check.says("Promise 16", "0 hands, 1 bills, 2 the next bell, 3 ORDERS, 4 BREACHES (those not "
            + "kept, too), 5 bytes of the tape, 6 the SPANS' bells together, 7 D, 8 R, 9 S, 10 dull, "
            + "11 learn, 12 least.");
        WatchBill x = Check.ship("watch 0 48 1 2;rest 11 10 9;dull 8;learn 7;least 6;bill x 1:a 1;bill y 1:b 1;",
            0, 1, 0, 1, 1, 1);
        x.order(0);
        x.order(0);
        x.bells(110);
        x.order(0);
        feed(x, "####################");
        x.end(13);
        int[] due = {3, 2, 110, 3, 300, 13, 50, 11, 10, 9, 8, 7, 6};
        for (int what = 0; what < due.length; what++) {
            Check.due("about " + what, x.about(what), due[what]);
        }
        Check.due("those that are kept are fewer", x.breach(200, 0), NONE);
    }

    private static void promise16NoneForOthers() {
        Check.says("Promise 16", "NONE for others.");
        int[] others = {-1, 13, 14, 100, LOWEST, HIGHEST};
        for (int what : others) {
            Check.due("about " + what, new WatchBill().about(what), NONE);
            Check.due("about " + what, busyShip().about(what), NONE);
        }
    }
}
