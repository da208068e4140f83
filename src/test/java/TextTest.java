/** Promises 1 to 5, 9 and 10: the tape, the text with its faults, its bills and watches. */
public final class TextTest {
    private static final int NONE = WatchBill.NONE;

    public static void main(String[] args) {
        newObject();
        feeding();
        ending();
        settings();
        faultsOfTokens();
        faultsOfWatch();
        faultsOfRest();
        faultsOfBill();
        faultsOfSettings();
        secondTimes();
        tooMany();
        faultAnswers();
        faultyTextChangesNothing();
        soundTextBeginsAnew();
        nothingStaysOfOtherTexts();
        bills();
        watches();
        Check.finish();
    }

    private static void newObject() {
        WatchBill x = new WatchBill();
        int[] about = {0, 0, 0, 0, 0, 0, 48, 48, 0, 0, 0, 0, 0};
        for (int what = 0; what < about.length; what++) {
            Check.due("new: about " + what, x.about(what), about[what]);
        }
        Check.due("new: fault 0", x.fault(0), NONE);
        Check.due("new: fault 1", x.fault(1), NONE);
        Check.due("new: handOf", x.handOf(0, 0), NONE);
        Check.due("new: bill", x.bill(0, 0), NONE);
        Check.due("new: watch", x.watch(0), 0);
        Check.due("new: order", x.order(0), NONE);
        Check.due("new: ordered", x.ordered(0, 0), NONE);
        Check.due("new: could", x.could(0), NONE);
        Check.due("new: breach", x.breach(0, 0), NONE);
        Check.due("new: bells", x.bells(480), 480);
        Check.due("new: the next bell", x.about(2), 480);
    }

    private static void feeding() {
        WatchBill x = new WatchBill();
        for (int n = 20; n <= 400; n += 20) {
            Check.due("feed", x.feed(0x20202020, 0x20202020, 0x20202020, 0x20202020, 0x20202020), n);
        }
        Check.due("feed beyond 400", x.feed(0, 0, 0, 0, 0), NONE);
        Check.due("the tape then", x.about(5), 400);
        Check.due("end 381", x.end(381), 381);
        Check.due("feed beyond 400, by one", x.feed(0, 0, 0, 0, 0), NONE);
        Check.due("the tape then", x.about(5), 381);
        Check.due("text of blanks", x.text(), 0);
        Check.due("the tape then", x.about(5), 0);
        // The highest byte first, from a to e: "dull 3;learn 4;leas" would end the text.
        x.feed(0x64756c6c, 0x20333b6c, 0x6561726e, 0x20343b6c, 0x65617374);
        x.feed(0x20353b20, 0x20202020, 0x20202020, 0x20202020, 0x20202020);
        Check.due("text of fed bytes", x.text(), 0);
        Check.due("dull", x.about(10), 3);
        Check.due("learn", x.about(11), 4);
        Check.due("least", x.about(12), 5);
        // Bytes above 127 are no tokens.
        x.feed(0xff202020, 0, 0, 0, 0);
        Check.due("text of a byte 255", x.text(), NONE);
        Check.due("its fault", x.fault(0), 1);
        Check.due("its place", x.fault(1), 0);
    }

    private static void ending() {
        WatchBill x = new WatchBill();
        Check.due("end 0 of none", x.end(0), 0);
        Check.due("end 1 of none", x.end(1), NONE);
        x.feed(0x64756c6c, 0x20333b78, 0x20202020, 0x20202020, 0x20202020);
        Check.due("end below 0", x.end(-1), NONE);
        Check.due("end far below 0", x.end(Integer.MIN_VALUE), NONE);
        Check.due("end 21 of 20", x.end(21), NONE);
        Check.due("the tape then", x.about(5), 20);
        Check.due("end 20 of 20", x.end(20), 20);
        Check.due("end 7", x.end(7), 7);
        Check.due("end 8 behind end 7", x.end(8), NONE);
        Check.due("text", x.text(), 0);
        Check.due("dull", x.about(10), 3);
    }

    private static void settings() {
        WatchBill x = Check.ship("watch 2 1 0 48 1 7; rest 96 96 96; dull 8; learn 100; least 16;");
        int[] about = {56, 96, 96, 96, 8, 100, 16};
        for (int i = 0; i < about.length; i++) {
            Check.due("about " + (6 + i), x.about(6 + i), about[i]);
        }
        Check.due("a text without clauses", Check.text(x, "\n  \n"), 0);
        int[] without = {48, 48, 0, 0, 0, 0, 0};
        for (int i = 0; i < without.length; i++) {
            Check.due("without clauses: about " + (6 + i), x.about(6 + i), without[i]);
        }
        Check.sound("", 0);
        Check.sound("watch0 1;", 0);
        Check.sound("least\n016;dull 0008;", 0);
        Check.sound("rest 1 0 1;", 0);
        Check.sound("bill a 1:a 1;bill b 48:f 8;bill watches 2:a 1 b 1 a 1;bill abcdefgh 3:a8;", 4);
    }

    private static void faultsOfTokens() {
        Check.faulty("#", 1, 0);
        Check.faulty("  \n;", 1, 3);
        Check.faulty("dull 1; 5", 1, 8);
        Check.faulty("dull 1;\t", 1, 7);
        Check.faulty("dull 1;\r\n", 1, 7);
        Check.faulty("Dull 1;", 1, 0);
        Check.faulty("name 1;", 1, 0);
        Check.faulty("dullness 1;", 1, 0);
        Check.faulty("dull -1;", 1, 5);
        Check.faulty("dull", 1, 4);
        Check.faulty("dull \n ", 1, 7);
        Check.faulty("dull 1", 1, 6);
        Check.faulty("dull 1:", 1, 6);
        Check.faulty("dull1dull", 1, 5);
        // A name of nine letters isn't a name of eight and one behind it.
        Check.faulty("bill abcdefghi 1:a 1;", 1, 5);
        Check.faulty("bill watch 1:a 1;", 1, 5);
        Check.faulty("watchbill 0 1;", 1, 0);
    }

    private static void faultsOfWatch() {
        Check.faulty("watch;", 1, 5);
        Check.faulty("watch 0;", 1, 7);
        Check.faulty("watch 0 1 2;", 1, 11);
        Check.faulty("watch 0 1 a;", 1, 10);
        Check.faulty("watch 3 1;", 3, 6);
        Check.faulty("watch 0 0;", 3, 8);
        Check.faulty("watch 0 49;", 3, 8);
        Check.faulty("watch 0 48 3 1;", 3, 11);
        Check.faulty("watch 4294967296 1;", 3, 6);
        Check.faulty("watch 0 18446744073709551617;", 3, 8);
    }

    private static void faultsOfRest() {
        Check.faulty("rest;", 1, 4);
        Check.faulty("rest 1 1;", 1, 8);
        Check.faulty("rest 1 1 1 1;", 1, 11);
        Check.faulty("rest 0 0 0;", 3, 5);
        Check.faulty("rest 97 0 0;", 3, 5);
        Check.faulty("rest 4 5 0;", 3, 7);
        Check.faulty("rest 4 4 5;", 3, 9);
        Check.sound("rest 4 2 4;", 0);
    }

    private static void faultsOfBill() {
        Check.faulty("bill;", 1, 4);
        Check.faulty("bill 1 1:a 1;", 1, 5);
        Check.faulty("bill x:a 1;", 1, 6);
        Check.faulty("bill x 0:a 1;", 3, 7);
        Check.faulty("bill x 49:a 1;", 3, 7);
        Check.faulty("bill x 1;", 1, 8);
        Check.faulty("bill x 1 a 1;", 1, 9);
        Check.faulty("bill x 1:;", 1, 9);
        Check.faulty("bill x 1:g 1;", 1, 9);
        Check.faulty("bill x 1:aa 1;", 1, 9);
        Check.faulty("bill x 1:a 1 z 1;", 1, 13);
        Check.faulty("bill x 1:a 1 dull 1;", 1, 13);
        Check.faulty("bill x 1:a;", 1, 10);
        Check.faulty("bill x 1:a 0;", 3, 11);
        Check.faulty("bill x 1:a 9;", 3, 11);
        Check.faulty("bill x 1:a 1 2;", 1, 13);
        Check.faulty("bill x 1:a 1", 1, 12);
    }

    private static void faultsOfSettings() {
        Check.faulty("dull 9;", 3, 5);
        Check.faulty("learn 101;", 3, 6);
        Check.faulty("least 17;", 3, 6);
        Check.faulty("dull;", 1, 4);
        Check.faulty("learn a;", 1, 6);
        Check.faulty("least 1 1;", 1, 8);
    }

    private static void secondTimes() {
        Check.faulty("watch 0 1; watch 0 1;", 2, 11);
        Check.faulty("rest 1 0 0;rest 1 0 0;", 2, 11);
        Check.faulty("dull 1;dull 1;", 2, 7);
        Check.faulty("learn 1;least 1;learn", 2, 16);
        Check.faulty("least 1;dull 1;least#", 2, 15);
        Check.faulty("bill x 1:a 1;bill x 1:a 1;", 2, 18);
        Check.faulty("bill x 1:a 1;bill xx 1:a 1;bill y 1:a 1;bill xx", 2, 45);
        Check.sound("bill x 1:a 1;bill xx 1:a 1;bill xxx 1:a 1;", 3);
        // The first token at fault counts.
        Check.faulty("dull 9;dull 1;", 3, 5);
    }

    private static void tooMany() {
        String spans = "watch 0 1 1 1 2 1 0 1 1 1 2 1 0 1 1 1 2 1 0 1 1 1 2 1";
        Check.sound(spans + ";", 0);
        Check.faulty(spans + " 2 1;", 4, 54);
        Check.faulty(spans + " 3 1;", 3, 54);
        Check.faulty(spans + " a", 1, 54);
        StringBuilder eight = new StringBuilder();
        for (char c = 'a'; c < 'i'; c++) {
            eight.append("bill ").append(c).append(" 1:a 1;");
        }
        Check.sound(eight.toString(), 8);
        Check.faulty(eight + "bill i 1:a 1;", 4, 109);
        Check.faulty(eight + "bill c 1:a 1;", 2, 109);
        Check.faulty(eight + "bill rest", 1, 109);
        Check.faulty(eight + "bill abcdefghi", 1, 109);
        Check.sound("bill x 1:a 8 b 4;", 1);
        Check.sound("bill x 1:a 1 a 1 a 1 a 1 a 1 a 1 a 1 a 1 a 1 a 1 a 1 a 1;", 1);
        Check.faulty("bill x 1:a 1 a 1 a 1 a 1 a 1 a 1 a 1 a 1 a 1 a 1 a 1 a 1 f 1;", 4, 59);
        Check.faulty("bill x 1:a 8 b 5;", 4, 15);
        Check.faulty("bill x 1:a 8 b 9;", 3, 15);
        Check.faulty("bill x 1:a 8 b 4 c 1;", 4, 19);
        Check.faulty("bill x 1:a 8 b 4 g 1;", 1, 17);
    }

    private static void faultAnswers() {
        WatchBill x = new WatchBill();
        Check.due("a faulty text", Check.text(x, " x"), NONE);
        Check.due("fault 0", x.fault(0), 1);
        Check.due("fault 1", x.fault(1), 1);
        Check.due("fault 2", x.fault(2), NONE);
        Check.due("fault -1", x.fault(-1), NONE);
        Check.due("a sound text", Check.text(x, "dull 1;"), 0);
        Check.due("fault 0 of the latest", x.fault(0), 0);
        Check.due("fault 1 of the latest", x.fault(1), NONE);
        Check.due("fault 2 of the latest", x.fault(2), NONE);
    }

    private static final String BUSY_TEXT =
        "watch 1 2 0 3;rest 2 2 0;dull 1;learn 1;least 3;bill x 1:a 1;bill y 9:a 1;";

    /** Two hands and a learner, two bells worked; the second order lasts. */
    private static WatchBill busyShip() {
        WatchBill x = Check.ship(BUSY_TEXT);
        x.hand(1, 1);
        x.hand(1, 0);
        x.hand(2, 1);
        x.order(0);
        x.bells(2);
        x.order(1);
        x.sick(2, 5);
        return x;
    }

    private static void faultyTextChangesNothing() {
        WatchBill x = busyShip();
        WatchBill same = busyShip();
        Check.due("faulty text", Check.text(x, "watch 0 1;rest 9 0 0;bill z 1:a 1;dull 5;dull"), NONE);
        for (int what = 0; what < 13; what++) {
            Check.due("behind a faulty text: about " + what, x.about(what), same.about(what));
        }
        for (int h = 0; h < 3; h++) {
            for (int what = 0; what < 16; what++) {
                Check.due("behind a faulty text: handOf " + h + " " + what,
                    x.handOf(h, what), same.handOf(h, what));
            }
        }
        Check.due("behind a faulty text: bill", x.bill(1, 0), 9);
        Check.due("behind a faulty text: watch", x.watch(0), 0);
        Check.due("behind a faulty text: ordered", x.ordered(1, 1), 9);
        Check.due("behind a faulty text: breach", x.breach(0, 2), 0);
    }

    private static void soundTextBeginsAnew() {
        WatchBill x = busyShip();
        Check.due("hand 1 learned", x.handOf(1, 10), 1);
        Check.due("hand 1 has the skill", x.handOf(1, 1), 1);
        Check.due("breaches", x.about(4) > 0, true);
        Check.due("sound text", Check.text(x, "bill z 3:a 3;"), 1);
        int[] about = {3, 1, 0, 0, 0, 0, 48, 48, 0, 0, 0, 0, 0};
        for (int what = 0; what < about.length; what++) {
            Check.due("anew: about " + what, x.about(what), about[what]);
        }
        int[] watch = {1, 1, 2};
        int[] zeros = {2, 3, 4, 5, 6, 10, 11, 12, 13, 14, 15};
        for (int h = 0; h < 3; h++) {
            Check.due("anew: WATCH", x.handOf(h, 0), watch[h]);
            Check.due("anew: skills, learned ones too", x.handOf(h, 1), 1);
            Check.due("anew: latest bell", x.handOf(h, 7), NONE);
            for (int what : zeros) {
                Check.due("anew: handOf " + h + " " + what, x.handOf(h, what), 0);
            }
        }
        Check.due("anew: ordered", x.ordered(0, 0), NONE);
        Check.due("anew: breach", x.breach(0, 0), NONE);
        Check.due("anew: hand", x.hand(0, 0), 3);
        Check.due("anew: all can be called", x.could(0), 3);
        Check.due("anew: order", x.order(0), 0);
    }

    private static void nothingStaysOfOtherTexts() {
        String full = "watch 1 7;rest 9 8 7;dull 6;learn 5;least 4;bill x 1:a 1;";
        int[] without = {48, 48, 0, 0, 0, 0, 0};
        WatchBill behindFaulty = new WatchBill();
        Check.text(behindFaulty, full + "#");
        WatchBill behindSound = Check.ship(full);
        Check.text(behindSound, full);
        for (WatchBill x : new WatchBill[] {behindFaulty, behindSound}) {
            Check.due("a bill of an earlier text", Check.text(x, "bill x 2:b 1;"), 1);
            Check.due("its bells", x.bill(0, 0), 2);
            for (int i = 0; i < without.length; i++) {
                Check.due("behind another text: about " + (6 + i), x.about(6 + i), without[i]);
            }
            Check.due("behind another text: watch", x.watch(0), 0);
        }
    }

    private static void bills() {
        WatchBill x = Check.ship("bill one 48:f 2 a 1 f 1;bill two 1:c 8 d 4;");
        int[] skills = {5, 5, 0, 5};
        Check.due("bells of one", x.bill(0, 0), 48);
        Check.due("stations of one", x.bill(0, 1), 4);
        for (int i = 0; i < skills.length; i++) {
            Check.due("skill of station " + i, x.bill(0, 100 + i), skills[i]);
        }
        Check.due("bells of two", x.bill(1, 0), 1);
        Check.due("stations of two", x.bill(1, 1), 12);
        Check.due("skill of station 7", x.bill(1, 107), 2);
        Check.due("skill of station 8", x.bill(1, 108), 3);
        Check.due("skill of station 11", x.bill(1, 111), 3);
        int[] others = {-1, 2, 99, 104, 112, 200, Integer.MIN_VALUE, Integer.MAX_VALUE};
        for (int what : others) {
            Check.due("bill 0 " + what, x.bill(0, what), NONE);
        }
        Check.due("bill 1 112", x.bill(1, 112), NONE);
        Check.due("bill -1", x.bill(-1, 0), NONE);
        Check.due("bill 2", x.bill(2, 0), NONE);
        Check.due("bill 2, a station", x.bill(2, 100), NONE);
        Check.due("bill far", x.bill(Integer.MAX_VALUE, 0), NONE);
    }

    private static void watches() {
        WatchBill x = Check.ship("watch 2 3 0 1 1 2;");
        int[] round = {2, 2, 2, 0, 1, 1};
        for (int ahead = 0; ahead <= 1000; ahead += 5) {
            Check.due("watch " + ahead, x.watch(ahead), round[ahead % 6]);
        }
        Check.due("watch 1001", x.watch(1001), NONE);
        Check.due("watch -1", x.watch(-1), NONE);
        Check.due("watch far", x.watch(Integer.MAX_VALUE), NONE);
        WatchBill twelve = Check.ship("watch 0 1 1 1 2 1 0 1 1 1 2 1 0 1 1 1 2 1 0 1 1 1 2 48;");
        for (int ahead = 0; ahead < 60; ahead++) {
            int bell = ahead % 59;
            Check.due("twelve spans: watch " + ahead, twelve.watch(ahead), bell < 11 ? bell % 3 : 2);
        }
        x.bells(4);
        for (int ahead = 0; ahead < 12; ahead++) {
            Check.due("behind 4 bells: watch " + ahead, x.watch(ahead), round[(4 + ahead) % 6]);
        }
    }
}
