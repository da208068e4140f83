/** The document's Terms I, sentence by sentence: hands, the text, its tokens, clauses and faults. */
public final class TermsTextTest {
    private static final int NONE = WatchBill.NONE;
    private static final String TERMS = "Terms I";

    public static void main(String[] args) {
        handsWatchesAndSkills();
        textOfUpTo400Bytes();
        tokensBlanksAside();
        tokensTheLongest();
        tokensOfLetters();
        tokensKeywordsAndNames();
        tokensNumbersAndSigns();
        textOfClauses();
        clauseWatch();
        spanNumbers();
        clauseRest();
        restNumbers();
        clauseBill();
        billNumbers();
        clauseDull();
        clauseLearn();
        clauseLeast();
        withoutClauses();
        faultsTheFirstAsTokensAreComeTo();
        faultsAtTheToken();
        faultsOfOneTheLeast();
        fault1CantStandThere();
        fault1NameOfMoreLetters();
        fault1SkillNotAToFAlone();
        fault2ClauseForTheSecondTime();
        fault2BillsNameForTheSecondTime();
        fault3NumberNotTold();
        fault4NinthBill();
        fault4ThirteenthSpan();
        fault4ThirteenthStation();
        Check.finish();
    }

    private static String times(int n, String s) {
        return s.repeat(n);
    }

    private static void handsWatchesAndSkills() {
        Check.says(TERMS, "HANDS 0 .. 15, each of a WATCH 0 .. 2, with some of the skills a .. f "
            + "(0 .. 5; a set is the sum of 2 to the power of them).");
        String six = "bill p 1:a 1;bill q 1:b 1;bill r 1:c 1;bill s 1:d 1;bill t 1:e 1;bill u 1:f 1;";
        for (int set = 0; set < 64; set++) {
            WatchBill x = Check.ship(six, set % 3, set);
            Check.due("WATCH", x.handOf(0, 0), set % 3);
            Check.due("skills", x.handOf(0, 1), set);
            for (int skill = 0; skill < 6; skill++) {
                Check.due("set " + set + " has skill " + skill, x.could(skill), set / (1 << skill) % 2);
            }
        }
        WatchBill all = new WatchBill();
        for (int h = 0; h < 16; h++) {
            Check.due("hand", all.hand(h % 3, 63 - h), h);
        }
        Check.due("hand 15", all.handOf(15, 1), 48);
        Check.due("hand 16", all.handOf(16, 1), NONE);
    }

    private static void textOfUpTo400Bytes() {
        Check.says(TERMS, "A TEXT of up to 400 bytes.");
        String whole = times(392, " ") + "least 7;";
        WatchBill x = new WatchBill();
        Check.due("400 bytes", Check.text(x, whole), 0);
        Check.due("least of 400 bytes", x.about(12), 7);
        Check.faulty(whole.substring(0, 399), 1, 399);
        Check.faulty(times(399, "\n") + "#", 1, 399);
        Check.faulty(times(396, " ") + "dull", 1, 400);
        Check.faulty(times(399, " ") + "8", 1, 399);
        Check.faulty(times(400, "a"), 1, 0);
        Check.faulty("least " + times(394, "0"), 1, 400);
        Check.faulty("least " + times(394, "9"), 3, 6);
        Check.sound(times(400, " "), 0);
        Check.sound("", 0);
        WatchBill y = new WatchBill();
        Check.due("a number of 393 digits", Check.text(y, "least " + times(392, "0") + "7;"), 0);
        Check.due("its least", y.about(12), 7);
    }

    private static boolean isLetter(int b) {
        return b >= 97 && b <= 122;
    }

    private static void tokensBlanksAside() {
        Check.says(TERMS, "TOKENS, blanks (32, 10) aside,");
        for (int b = 0; b < 256; b++) {
            String text = "dull" + (char) b + "1;";
            if (b == 32 || b == 10 || b == 48) {
                Check.sound(text, 0);
            } else if (b >= 49 && b <= 57) {
                Check.faulty(text, 3, 4);
            } else {
                Check.faulty(text, 1, isLetter(b) ? 0 : 4);
            }
        }
        Check.sound("\n\n dull \n\n 1 \n; \n", 0);
        // A blank parts what would be one token.
        Check.faulty("du ll 1;", 1, 0);
        Check.faulty("dull 0 1;", 1, 7);
        Check.faulty("dull 0\n1;", 1, 7);
    }

    private static void tokensTheLongest() {
        Check.says(TERMS, "the longest that begin there:");
        Check.sound("dull1;learn2;bill x3:a1b2a1;", 1);
        Check.faulty("dulll 1;", 1, 0);
        Check.faulty("dull 12;", 3, 5);
        Check.faulty("watch 0 123;", 3, 8);
        Check.faulty("bill x 1:ab 1;", 1, 9);
        WatchBill x = Check.ship("least 16;");
        Check.due("16 is one number", x.about(12), 16);
    }

    private static void tokensOfLetters() {
        Check.says(TERMS, "letters a .. z (8 at most):");
        for (int b = 0; b < 256; b++) {
            String text = "bill " + (char) b + " 1:a 1;";
            if (isLetter(b)) {
                Check.sound(text, 1);
            } else {
                Check.faulty(text, 1, b == 32 || b == 10 ? 7 : 5);
            }
        }
        Check.sound("bill zzzzzzzz 1:a 1;", 1);
        Check.faulty("bill zzzzzzzzz 1:a 1;", 1, 5);
        Check.faulty("bill xA 1:a 1;", 1, 6);
    }

    private static void tokensKeywordsAndNames() {
        Check.says(TERMS, "the KEYWORDS watch rest bill dull learn least, else NAMES;");
        String[] keywords = {"watch", "rest", "bill", "dull", "learn", "least"};
        for (String word : keywords) {
            Check.faulty("bill " + word + " 1:a 1;", 1, 5);
            // One letter less, more or other makes a name of it, which begins no clause.
            String[] names = {word.substring(1), word.substring(0, word.length() - 1), word + "s",
                "a" + word, word.substring(0, word.length() - 1) + "z"};
            for (String name : names) {
                Check.sound("bill " + name + " 1:a 1;", 1);
                Check.faulty(name + " 1;", 1, 0);
            }
        }
        Check.faulty("Watch 0 1;", 1, 0);
    }

    private static void tokensNumbersAndSigns() {
        Check.says(TERMS, "NUMBERS (digits); : ;");
        for (int b = 0; b < 256; b++) {
            String text = "learn 1" + (char) b + ";";
            if (b >= 48 && b <= 57) {
                WatchBill x = Check.ship(text);
                Check.due("learn", x.about(11), 10 + b - 48);
            } else if (b == 32 || b == 10) {
                Check.sound(text, 0);
            } else {
                Check.faulty(text, 1, b == ';' ? 8 : 7);
            }
            String colon = "bill x 1" + (char) b + "a 1;";
            if (b == ':') {
                Check.sound(colon, 1);
            } else {
                boolean isDigit = b >= 48 && b <= 57;
                Check.faulty(colon, 1, b == 32 || b == 10 || isDigit ? 9 : 8);
            }
        }
        Check.faulty("dull +1;", 1, 5);
        Check.faulty("dull 1.0;", 1, 6);
    }

    private static void textOfClauses() {
        Check.says(TERMS, "TEXT: {CLAUSE}.");
        Check.sound("", 0);
        Check.sound("\n", 0);
        Check.sound("bill x 1:a 1;", 1);
        Check.sound("least 1;learn 1;dull 1;bill x 1:a 1;rest 1 0 0;bill y 1:a 1;watch 0 1;", 2);
        Check.faulty(";", 1, 0);
        Check.faulty("dull 1;;", 1, 7);
    }

    private static void clauseWatch() {
        Check.says(TERMS, "CLAUSE: watch SPAN {SPAN} ;");
        Check.faulty("watch;", 1, 5);
        Check.faulty("watch 0;", 1, 7);
        Check.sound("watch 0 1;", 0);
        Check.faulty("watch 0 1 1;", 1, 11);
        Check.sound("watch 0 1 1 1;", 0);
        Check.faulty("watch 0 1", 1, 9);
    }

    private static void spanNumbers() {
        Check.says(TERMS, "(SPAN: NUMBER NUMBER: a WATCH, so many bells 1 .. 48);");
        for (int watch = 0; watch < 3; watch++) {
            WatchBill x = Check.ship("watch " + watch + " 48;");
            Check.due("its watch", x.watch(0), watch);
            Check.due("its bells", x.about(6), 48);
        }
        Check.faulty("watch 3 1;", 3, 6);
        Check.faulty("watch 0 0;", 3, 8);
        Check.sound("watch 0 1;", 0);
        Check.faulty("watch 0 49;", 3, 8);
        Check.faulty("watch 2 48 2 49;", 3, 13);
    }

    private static void clauseRest() {
        Check.says(TERMS, "rest NUMBER NUMBER NUMBER ;");
        Check.faulty("rest;", 1, 4);
        Check.faulty("rest 4;", 1, 6);
        Check.faulty("rest 4 2;", 1, 8);
        Check.faulty("rest 4 2 1 0;", 1, 11);
        WatchBill x = Check.ship("rest 4 2 1;");
        Check.due("D", x.about(7), 4);
        Check.due("R", x.about(8), 2);
        Check.due("S", x.about(9), 1);
    }

    private static void restNumbers() {
        Check.says(TERMS, "(D 1 .. 96, R 0 .. D, S 0 .. D);");
        Check.faulty("rest 0 0 0;", 3, 5);
        Check.sound("rest 1 0 0;", 0);
        Check.sound("rest 1 1 1;", 0);
        Check.faulty("rest 1 2 1;", 3, 7);
        Check.faulty("rest 1 1 2;", 3, 9);
        Check.sound("rest 96 0 0;", 0);
        Check.sound("rest 96 96 96;", 0);
        Check.faulty("rest 96 97 0;", 3, 8);
        Check.faulty("rest 96 0 97;", 3, 10);
        Check.faulty("rest 97 0 0;", 3, 5);
        // S is told by D, not by R.
        WatchBill x = Check.ship("rest 9 0 9;");
        Check.due("R", x.about(8), 0);
        Check.due("S", x.about(9), 9);
    }

    private static void clauseBill() {
        Check.says(TERMS, "bill NAME NUMBER : KIND {KIND} ;");
        Check.faulty("bill;", 1, 4);
        Check.faulty("bill x;", 1, 6);
        Check.faulty("bill x 1;", 1, 8);
        Check.faulty("bill x 1:;", 1, 9);
        Check.faulty("bill x 1:a;", 1, 10);
        Check.sound("bill x 1:a 1;", 1);
        Check.sound("bill x 1:a 1 a 1;", 1);
        Check.faulty("bill x 1:a 1:", 1, 12);
        Check.faulty("bill x 1:a 1", 1, 12);
    }

    private static void billNumbers() {
        Check.says(TERMS, "(bells 1 .. 48; KIND: NAME NUMBER: a skill, by one letter, "
            + "so many STATIONS 1 .. 8);");
        Check.faulty("bill x 0:a 1;", 3, 7);
        Check.faulty("bill x 49:a 1;", 3, 7);
        Check.faulty("bill x 1:a 0;", 3, 11);
        Check.faulty("bill x 1:a 9;", 3, 11);
        WatchBill x = Check.ship("bill x 1:f 1 a 8;bill y 48:a 1;");
        Check.due("fewest bells", x.bill(0, 0), 1);
        Check.due("most bells", x.bill(1, 0), 48);
        Check.due("stations of both kinds", x.bill(0, 1), 9);
        Check.due("one station", x.bill(1, 1), 1);
        Check.due("the first kind's", x.bill(0, 100), 5);
        Check.due("the second kind's first", x.bill(0, 101), 0);
        Check.due("the second kind's last", x.bill(0, 108), 0);
    }

    private static void setting(String keyword, int what, int highest) {
        for (int n = 0; n <= highest; n++) {
            WatchBill x = Check.ship(keyword + " " + n + ";");
            Check.due(keyword + " " + n, x.about(what), n);
        }
        int place = keyword.length() + 1;
        Check.faulty(keyword + " " + (highest + 1) + ";", 3, place);
        Check.faulty(keyword + ";", 1, place - 1);
        Check.faulty(keyword + " 0 0;", 1, place + 2);
        Check.faulty(keyword + " 0", 1, place + 1);
    }

    private static void clauseDull() {
        Check.says(TERMS, "dull NUMBER ; (0 .. 8);");
        setting("dull", 10, 8);
    }

    private static void clauseLearn() {
        Check.says(TERMS, "learn NUMBER ; (0 .. 100);");
        setting("learn", 11, 100);
    }

    private static void clauseLeast() {
        Check.says(TERMS, "least NUMBER ; (0 .. 16).");
        setting("least", 12, 16);
    }

    private static void withoutClauses() {
        Check.says(TERMS, "Without watch: 0 48; rest: 48 0 0; dull, learn, least: 0.");
        String[] clauses = {"watch 1 7;", "rest 9 8 7;", "dull 1;", "learn 2;", "least 3;"};
        int[] with = {7, 9, 8, 7, 1, 2, 3};
        int[] without = {48, 48, 0, 0, 0, 0, 0};
        int[] clauseOf = {0, 1, 1, 1, 2, 3, 4};
        for (int set = 0; set < 32; set++) {
            StringBuilder text = new StringBuilder();
            for (int i = 0; i < 5; i++) {
                text.append((set >> i & 1) == 1 ? clauses[i] : "");
            }
            WatchBill x = Check.ship(text.toString());
            for (int i = 0; i < with.length; i++) {
                boolean told = (set >> clauseOf[i] & 1) == 1;
                Check.due("[" + text + "] about " + (6 + i), x.about(6 + i), told ? with[i] : without[i]);
            }
            Check.due("[" + text + "] watch", x.watch(47), set & 1);
        }
        // Whatever the texts ahead told, sound or not.
        WatchBill later = Check.ship(String.join("", clauses));
        Check.text(later, String.join("", clauses));
        Check.text(later, String.join("", clauses) + "#");
        Check.due("a text without clauses", later.text(), 0);
        for (int i = 0; i < without.length; i++) {
            Check.due("later: about " + (6 + i), later.about(6 + i), without[i]);
        }
    }

    private static void faultsTheFirstAsTokensAreComeTo() {
        Check.says(TERMS, "FAULTS, the first as TOKENS are come to,");
        Check.faulty("dull 9 dull 9;#", 3, 5);
        Check.faulty("dull 1;dull 9;#", 2, 7);
        Check.faulty("dull # dull 9;", 1, 5);
        Check.faulty("watch 3 49;", 3, 6);
        Check.faulty("rest 4 5 5;", 3, 7);
        Check.faulty("bill x 49:g 9;", 3, 7);
        Check.faulty("bill x 1:a 8 b 8 g 9;", 4, 15);
    }

    private static void faultsAtTheToken() {
        Check.says(TERMS, "at the TOKEN (the end at the length),");
        Check.faulty("  \n ;", 1, 4);
        Check.faulty("dull \n  9  ;", 3, 8);
        Check.faulty("dull 1;\n  dull 1;", 2, 10);
        Check.faulty("dull", 1, 4);
        Check.faulty("dull ", 1, 5);
        Check.faulty("dull 1 \n \n", 1, 10);
        Check.faulty("bill", 1, 4);
        Check.faulty("watch 0 1 ", 1, 10);
    }

    private static void faultsOfOneTheLeast() {
        Check.says(TERMS, "of one the least:");
        // 1 ahead of 2: a keyword for the second time where none can stand.
        Check.faulty("dull 1 dull 1;", 1, 7);
        Check.faulty("watch 0 1 watch 0 1;", 1, 10);
        // 1 ahead of 4, 2 ahead of 4: the ninth bill's name.
        Check.faulty(bills(8) + "bill least 1:a 1;", 1, 109);
        Check.faulty(bills(8) + "bill ninebills 1:a 1;", 1, 109);
        Check.faulty(bills(8) + "bill 9 1:a 1;", 1, 109);
        Check.faulty(bills(8) + "bill a 1:a 1;", 2, 109);
        Check.faulty(bills(8) + "bill h 1:a 1;", 2, 109);
        // 3 ahead of 4: the thirteenth span's watch, the number with too many stations.
        Check.faulty("watch" + times(12, " 0 1") + " 3 1;", 3, 54);
        Check.faulty("bill x 1:a 8 b 4 c 9;", 3, 19);
        Check.faulty("bill x 1:a 8 b 4 c 0;", 3, 19);
        Check.faulty("bill x 1:a 8 b 9;", 3, 15);
    }

    private static String bills(int n) {
        StringBuilder s = new StringBuilder();
        for (int b = 0; b < n; b++) {
            s.append("bill ").append((char) ('a' + b)).append(" 1:a 1;");
        }
        return s.toString();
    }

    /** A sound text's tokens, each with the kinds that can stand there (E: the end). */
    private static final String[][] TOKENS = {
        {"watch", "KE"}, {"0", "D"}, {"4", "D"}, {"1", "DS"}, {"4", "D"}, {";", "DS"},
        {"rest", "KE"}, {"4", "D"}, {"2", "D"}, {"1", "D"}, {";", "S"},
        {"bill", "KE"}, {"x", "N"}, {"2", "D"}, {":", "C"}, {"a", "N"}, {"1", "D"}, {"b", "NS"},
        {"2", "D"}, {";", "NS"},
        {"dull", "KE"}, {"1", "D"}, {";", "S"}, {"learn", "KE"}, {"2", "D"}, {";", "S"},
        {"least", "KE"}, {"3", "D"}, {";", "S"}};

    private static void fault1CantStandThere() {
        Check.says(TERMS, "1 it can't stand there, or is none");
        String[][] others = {{"K", "bill"}, {"K", "least"}, {"N", "c"}, {"D", "1"}, {"C", ":"},
            {"S", ";"}, {"none", "#"}, {"none", "\t"}, {"none", "" + (char) 0},
            {"none", "" + (char) 255}, {"none", "A"}, {"none", "-"}};
        StringBuilder ahead = new StringBuilder();
        for (int i = 0; i < TOKENS.length; i++) {
            for (String[] other : others) {
                if (!TOKENS[i][1].contains(other[0])) {
                    String behind = i + 1 < TOKENS.length ? " " + TOKENS[i + 1][0] : "";
                    Check.faulty(ahead + other[1] + behind, 1, ahead.length());
                }
            }
            if (TOKENS[i][1].contains("E")) {
                Check.sound(ahead.toString(), i < 20 ? 0 : 1);
            } else {
                Check.faulty(ahead.toString(), 1, ahead.length());
            }
            ahead.append(TOKENS[i][0]).append(' ');
        }
        Check.sound(ahead.toString(), 1);
    }

    private static void fault1NameOfMoreLetters() {
        Check.says(TERMS, "(a NAME of more letters;");
        Check.sound("bill abcdefgh 1:a 1;", 1);
        Check.faulty("bill abcdefghi 1:a 1;", 1, 5);
        Check.faulty("bill " + times(64, "a") + " 1:a 1;", 1, 5);
        Check.faulty("bill x 1:aaaaaaaaa 1;", 1, 9);
        // Nine letters aren't the eight at their head, be they a name that was or a keyword's.
        Check.faulty("bill abcdefgh 1:a 1;bill abcdefghi 1:a 1;", 1, 25);
        Check.faulty("dulldull 1;", 1, 0);
        Check.faulty("leastleast 1;", 1, 0);
        Check.faulty("bill x1:a 1;bill aaaadull 1:a 1;bill aaaadulll", 1, 37);
    }

    private static void fault1SkillNotAToFAlone() {
        Check.says(TERMS, "as a skill one that isn't a .. f alone).");
        for (char c = 'a'; c <= 'z'; c++) {
            String text = "bill x 1:" + c + " 1;";
            if (c <= 'f') {
                WatchBill x = Check.ship(text);
                Check.due("skill of " + c, x.bill(0, 100), c - 'a');
            } else {
                Check.faulty(text, 1, 9);
            }
            Check.faulty("bill x 1:a 1 " + c + c + " 1;", 1, 13);
            Check.faulty("bill x 1:a 1 a" + c + " 1;", 1, 13);
        }
        Check.faulty("bill x 1:A 1;", 1, 9);
    }

    private static void fault2ClauseForTheSecondTime() {
        Check.says(TERMS, "2 a clause (but bill) for the second time (at its KEYWORD),");
        String[] clauses = {"watch 0 1;", "rest 1 0 0;", "dull 0;", "learn 0;", "least 0;"};
        for (String first : clauses) {
            for (String second : clauses) {
                if (first.equals(second)) {
                    Check.faulty(first + " " + second, 2, first.length() + 1);
                    // At the keyword, whatever stands behind it.
                    String keyword = first.substring(0, first.indexOf(' '));
                    Check.faulty(first + keyword, 2, first.length());
                    Check.faulty(first + keyword + "#", 2, first.length());
                    Check.faulty(first + "bill x 1:a 1;" + second, 2, first.length() + 13);
                } else {
                    Check.sound(first + second, 0);
                    Check.faulty(first + second + first, 2, first.length() + second.length());
                }
            }
        }
        Check.sound("bill x 1:a 1;bill y 1:a 1;", 2);
    }

    private static void fault2BillsNameForTheSecondTime() {
        Check.says(TERMS, "a bill's NAME for the second time.");
        Check.faulty("bill x 1:a 1;bill x 1:a 1;", 2, 18);
        Check.faulty("bill x 1:a 1;bill x", 2, 18);
        Check.faulty("bill x 1:a 1;bill y 1:a 1;bill x 2:b 2;", 2, 31);
        Check.faulty("bill abcdefgh 1:a 1;bill abcdefgh 1:a 1;", 2, 25);
        Check.sound("bill abcdefgh 1:a 1;bill abcdefg 1:a 1;bill bbcdefgh 1:a 1;bill abcdefgz 1:a 1;", 4);
        Check.sound("bill a 1:a 1;bill aa 1:a 1;bill z 1:a 1;bill za 1:a 1;", 4);
        Check.sound("bill a 1:a 1 a 1 b 1 a 1;", 1);
        // The names of an earlier text are forgotten.
        WatchBill x = Check.ship("bill x 1:a 1;");
        Check.due("the same name anew", Check.text(x, "bill x 1:a 1;"), 1);
    }

    private static void fault3NumberNotTold() {
        Check.says(TERMS, "3 a NUMBER that isn't one of those told.");
        // Each place of a number with the lowest and the highest that is told there.
        String[][] places = {{"watch ", " 1;", "0", "2"}, {"watch 0 ", ";", "1", "48"},
            {"watch 0 1 ", " 1;", "0", "2"}, {"rest ", " 0 0;", "1", "96"},
            {"rest 7 ", " 0;", "0", "7"}, {"rest 7 0 ", ";", "0", "7"},
            {"bill x ", ":a 1;", "1", "48"}, {"bill x 1:a ", ";", "1", "8"},
            {"bill x 1:a 1 b ", ";", "1", "8"}, {"dull ", ";", "0", "8"},
            {"learn ", ";", "0", "100"}, {"least ", ";", "0", "16"}};
        String[] huge = {"101", "999", "65536", "100000", "2147483647", "2147483648", "4294967295",
            "4294967296", "4294967297", "18446744073709551616", "18446744073709551617",
            "340282366920938463463374607431768211457"};
        for (String[] p : places) {
            int low = Integer.parseInt(p[2]);
            int high = Integer.parseInt(p[3]);
            int bills = p[0].startsWith("bill") ? 1 : 0;
            for (int n = 0; n <= high + 2; n++) {
                if (n < low || n > high) {
                    Check.faulty(p[0] + n + p[1], 3, p[0].length());
                    Check.faulty(p[0] + "00" + n + p[1], 3, p[0].length());
                } else {
                    Check.sound(p[0] + n + p[1], bills);
                    Check.sound(p[0] + "000000000000" + n + p[1], bills);
                }
            }
            for (String n : huge) {
                Check.faulty(p[0] + n + p[1], 3, p[0].length());
            }
        }
    }

    private static void fault4NinthBill() {
        Check.says(TERMS, "4 the 9th bill (at its NAME),");
        Check.sound(bills(8), 8);
        Check.faulty(bills(9), 4, 109);
        Check.faulty(bills(8) + "bill  i", 4, 110);
        Check.faulty(bills(8) + "bill", 1, 108);
        Check.faulty(bills(8) + "bill #", 1, 109);
        Check.sound(bills(8) + "dull 1;", 8);
        WatchBill x = Check.ship(bills(8));
        Check.due("the eighth bill", x.bill(7, 0), 1);
        Check.due("behind eight bills as many again", Check.text(x, bills(8)), 8);
        Check.due("and again", Check.text(x, bills(8)), 8);
        Check.due("stations of the eighth", x.bill(7, 1), 1);
    }

    private static void fault4ThirteenthSpan() {
        Check.says(TERMS, "the 13th SPAN (at its first NUMBER),");
        String twelve = "watch" + times(12, " 1 48");
        WatchBill x = Check.ship(twelve + ";");
        Check.due("bells of twelve spans", x.about(6), 576);
        Check.faulty(twelve + " 1 48;", 4, 66);
        Check.faulty(twelve + " 0", 4, 66);
        Check.faulty(twelve + " 2 99;", 4, 66);
        Check.faulty(twelve + " ", 1, 66);
        Check.faulty(twelve + " a", 1, 66);
    }

    private static void fault4ThirteenthStation() {
        Check.says(TERMS, "the 13th STATION of a bill (at the NUMBER with which there are more).");
        for (int first = 1; first <= 8; first++) {
            for (int second = 1; second <= 8; second++) {
                String text = "bill x 1:a " + first + " b " + second + ";";
                if (first + second <= 12) {
                    Check.sound(text, 1);
                } else {
                    Check.faulty(text, 4, 15);
                }
            }
        }
        String twelve = "bill x 1:" + times(12, "a 1 ");
        Check.sound(twelve + ";", 1);
        Check.faulty(twelve + "a 1;", 4, 59);
        Check.faulty(twelve + "a 8;", 4, 59);
        Check.faulty(twelve + "a;", 1, 58);
        Check.faulty(twelve + "g 1;", 1, 57);
        // Twelve stations of each bill, not of all.
        Check.sound("bill x 1:a 8 b 4;bill y 1:a 8 b 4;", 2);
    }
}
