/** The boundary cases of the TEXT ("Terms" 4) and of promises 21 to 23, sentence by sentence. */
final class TextEdgesTest {
    private static final int MIN = Integer.MIN_VALUE;
    private static final int MAX = Integer.MAX_VALUE;
    /** Ten times this are 200 bytes. */
    private static final String TWENTY = "s = 0 & y < 12345  &";

    private TextEdgesTest() {
    }

    static void run() {
        words();
        numbers();
        blanks();
        whole();
        tests();
        parts();
        units();
        order();
        firstByteOrEnd();
        sixthDigit();
        ninthBracket();
        closing();
        highestFirst();
        zeroLeftOut();
        mostBytes();
        everyByteCounts();
        longestTexts();
        firstBytesAlone();
        noSuchEnd();
        faultNone();
    }

    private static void fault(String text, int want) {
        RunDesk x = new RunDesk();
        Check.feed(x, text);
        Check.due("bytes of '" + text + "'", x.count(3), text.length());
        Check.due("fault of '" + text + "'", x.fault(), want);
        Check.due("fault of '" + text + "', asked again", x.fault(), want);
        if (want >= 0) {
            Check.due("many of '" + text + "'", x.many(), -1);
        }
    }

    private static void words() {
        Doc.terms(4, "WORDS: s, y, t, p, k (SEX, YEAR, TEAM, PEN, KIND), n, g");
        for (int sign = 1; sign < 256; sign++) {
            char c = (char) sign;
            boolean isFact = "sytpk".indexOf(c) >= 0;
            boolean isOrder = c == 'n' || c == 'g';
            boolean isBlank = c == ' ';
            fault(c + "=1;n", isFact ? -1 : isBlank || c == '(' ? 1 : 0);
            fault("s=1;" + c, isOrder ? -1 : isBlank ? 5 : 4);
            fault("s" + c + "1;n", "=<>".indexOf(c) >= 0 ? -1 : isBlank ? 2 : 1);
        }
    }

    private static void numbers() {
        Doc.terms(4, "numbers of 1 to 5 digits");
        fault("s=;n", 2);
        fault("s=0;n", -1);
        fault("s=9;n", -1);
        fault("s=/;n", 2);
        fault("s=:;n", 2);
        fault("s=00000;n", -1);
        fault("s=99999;n", -1);
        fault("s=1;n;", 6);
        fault("s=1;n;0", -1);
        fault("s=1;n;9", -1);
        fault("s=1;n;/", 6);
        fault("s=1;n;:", 6);
        fault("s=1;n;00000", -1);
        fault("s=1;n;99999", -1);
        fault("s=-1;n", 2);
        fault("s=1;n;-1", 6);
    }

    private static void blanks() {
        Doc.terms(4, "blanks stand between, if wanted");
        String[] words = {"(", "s", "=", "1", "&", "y", "<", "2", ")", "|", "p", ">", "3", ";", "n", ";", "4"};
        for (int at = 0; at <= words.length; at++) {
            StringBuilder one = new StringBuilder();
            StringBuilder tab = new StringBuilder();
            for (int i = 0; i <= words.length; i++) {
                one.append(i == at ? "   " : "").append(i < words.length ? words[i] : "");
                tab.append(i == at ? "\t" : "").append(i < words.length ? words[i] : "");
            }
            fault(one.toString(), -1);
            fault(tab.toString(), at);
        }
        fault("s=1 2;n", 4);
        fault("s=1;n;1 2", 8);
        fault("s= 12345 ;n; 12345 ", -1);
        fault("s=1;n" + (char) 160, 5);
        fault("s=1;n\n", 5);
        fault(" ", 1);
        fault("    ", 4);
    }

    private static void whole() {
        Doc.terms(4, "TEXT: TESTS ; ORDER, or TESTS ; ORDER ; number.");
        fault("s=1", 3);
        fault("s=1;", 4);
        fault("s=1;n", -1);
        fault("s=1;n;", 6);
        fault("s=1;n;1", -1);
        fault("s=1;n;1;", 7);
        fault("s=1;n;1;1", 7);
        fault(";n", 0);
        fault("s=1;;1", 4);
        fault("s=1;1", 4);
        fault("s=1;n1", 5);
        fault("s=1;n;n", 6);
        fault("s=1;n;1n", 7);
        fault("s=1;n;1&", 7);
    }

    private static void tests() {
        Doc.terms(4, "TESTS: parts with | between them");
        fault("s=1|s=1;n", -1);
        fault("s=1|s=1|s=1;n", -1);
        fault("|s=1;n", 0);
        fault("s=1|;n", 4);
        fault("s=1||s=1;n", 4);
        fault("(|s=1);n", 1);
        fault("(s=1|);n", 5);
    }

    private static void parts() {
        Doc.terms(4, "a part: units with & between them");
        fault("s=1&s=1;n", -1);
        fault("s=1&s=1&s=1|s=1&s=1;n", -1);
        fault("&s=1;n", 0);
        fault("s=1&;n", 4);
        fault("s=1&&s=1;n", 4);
        fault("s=1&|s=1;n", 4);
        fault("s=1|&s=1;n", 4);
        fault("s=1s=1;n", 3);
        fault("(s=1)s=1;n", 5);
        fault("s=1(s=1);n", 3);
        fault("(s=1)2;n", 5);
        fault("(s=1)(s=1);n", 5);
    }

    private static void units() {
        Doc.terms(4, "a unit: ( TESTS ), or a word of s y t p k, one of = < >, a number");
        fault("(s=1);n", -1);
        fault("(s=1|s=1&s=1);n", -1);
        fault("();n", 1);
        fault("( );n", 2);
        fault("s;n", 1);
        fault("s1;n", 1);
        fault("=1;n", 0);
        fault("1=s;n", 0);
        fault("s==1;n", 2);
        fault("s<=1;n", 2);
        fault("s><1;n", 2);
        fault("s=y;n", 2);
        fault("s=(1);n", 2);
        fault("(s)=1;n", 2);
        fault("sy=1;n", 1);
        fault("n=1;n", 0);
        fault("g=1;n", 0);
    }

    private static void order() {
        Doc.terms(4, "ORDER: n (TIME) or g (GUN TIME).");
        fault("s=1;n", -1);
        fault("s=1;g", -1);
        fault("s=1;ng", 5);
        fault("s=1;gg", 5);
        fault("s=1;N", 4);
        fault("s=1;s", 4);
    }

    private static void firstByteOrEnd() {
        Doc.terms(4, "The FAULT is the first byte (or the end) at which no such TEXT can go on");
        fault("", 0);
        fault("x", 0);
        fault("(", 1);
        fault("(s=1", 4);
        fault("(s=1)", 5);
        // behind the FAULT anything may stand
        fault("s=1x;n", 3);
        fault("xs=1;n", 0);
        fault("s=1;n)))", 5);
        fault("s=)=)=)", 2);
        fault("s=1;n;1 ;", 8);
    }

    private static void sixthDigit() {
        Doc.terms(4, "of a number that is too long its sixth digit");
        fault("s=123456;n", 7);
        fault("s=1234567;n", 7);
        fault("s=000000;n", 7);
        fault("s=12345x", 7);
        fault("s=12345", 7);
        fault("s=1|y<99999|t>123456;n", 19);
        fault("s=12345;n;12345", -1);
        fault("s=12345;n;123456", 15);
        fault("s=1;n;0000000", 11);
        fault("s=1;n;12345 6", 12);
    }

    private static void ninthBracket() {
        Doc.terms(4, "at most eight ( are open at once, a ninth is a FAULT");
        StringBuilder opened = new StringBuilder();
        StringBuilder closed = new StringBuilder("s=1");
        for (int open = 1; open <= 10; open++) {
            opened.append('(');
            closed.insert(0, '(').append(')');
            fault(opened.toString(), Math.min(open, 8));
            fault(closed + ";n", open <= 8 ? -1 : 8);
        }
        fault("((((((((s=1)|(s=1))&s=1)))))|(((s=1)));n", 38);
        fault("((((((((s=1)|(s=1))&s=1))))))|(((s=1)));n", -1);
        fault("((((((((s=1))))))))&((((((((s=1))))))));n", -1);
        fault("((((((((s=1))))))))&(((((((((s=1)))))))));n", 28);
        fault("((((((((s=1)|((s=1))))))))));n", 14);
    }

    private static void closing() {
        Doc.terms(4, "= < > & | ( ) ;");
        fault(");n", 0);
        fault("s=1);n", 3);
        fault("(s=1));n", 5);
        fault("((s=1);n", 6);
        fault("(s=1;n", 4);
        fault("(s=1&)", 5);
        fault("(s=)", 3);
        fault("(s)", 2);
    }

    private static void highestFirst() {
        Doc.says(21, "Four more bytes of the TEXT (the highest first");
        RunDesk x = new RunDesk();
        Check.due("s=1;", x.feed('s' << 24 | '=' << 16 | '1' << 8 | ';'), 4);
        Check.due("n;2 ", x.feed('n' << 24 | ';' << 16 | '2' << 8 | ' '), 8);
        Check.due("in this order", x.fault(), -1);
        // a highest byte above 127 makes the number a negative one
        Check.due("four of 255", x.feed(-1), 12);
        Check.due("their FAULT", x.fault(), 8);
        Check.due("128 alone", x.feed(MIN), 13);
        Check.due("127, then three of 255", x.feed(MAX), 17);
    }

    private static void zeroLeftOut() {
        Doc.says(21, "0 is left out): how many there are");
        for (int bits = 0; bits < 16; bits++) {
            RunDesk x = new RunDesk();
            int four = 0;
            int many = 0;
            for (int i = 0; i < 4; i++) {
                if ((bits & 1 << i) != 0) {
                    four |= 's' << 8 * i;
                    many++;
                }
            }
            Check.due("feed(" + four + ")", x.feed(four), many);
            Check.due("bytes", x.count(3), many);
            Check.due("a second s is the FAULT", x.fault(), Math.min(many, 1));
        }
    }

    private static void mostBytes() {
        Doc.says(21, "NONE: there would be more than 200.");
        int[] ones = {0x20000000, 0x20200000, 0x20202000, 0x20202020};
        for (int there = 196; there <= 200; there++) {
            for (int more = 0; more <= 4; more++) {
                RunDesk x = new RunDesk();
                Check.feed(x, TWENTY.repeat(10).substring(0, there));
                Check.due("so many are there", x.count(3), there);
                int due = there + more > 200 ? -1 : there + more;
                Check.due(more + " more than " + there, x.feed(more == 0 ? 0 : ones[more - 1]), due);
                Check.due("bytes then", x.count(3), due < 0 ? there : due);
            }
        }
    }

    private static void everyByteCounts() {
        Doc.says(21, "0 is left out");
        for (int one = 0; one < 256; one++) {
            for (int shift = 0; shift < 32; shift += 8) {
                RunDesk x = new RunDesk();
                Check.feed(x, TWENTY.repeat(10));
                Check.due("byte " + one + " behind 200", x.feed(one << shift), one == 0 ? 200 : -1);
                x.end(199);
                Check.due("byte " + one + " behind 199", x.feed(one << shift), one == 0 ? 199 : 200);
            }
        }
    }

    private static void longestTexts() {
        Doc.terms(4, "A LIST's TEXT: bytes.");
        String units = TWENTY.repeat(9) + "s=0";
        fault(units + " ".repeat(15) + ";n", -1);
        fault(units + " ".repeat(16) + ";", 200);
        fault(TWENTY.repeat(10), 200);
        fault(" ".repeat(195) + "s=0;n", -1);
        fault(" ".repeat(200), 200);
        fault("s=0;n" + " ".repeat(195), -1);
        fault("s=0;n;" + " ".repeat(193) + "1", -1);
        fault("s=0;n;1" + " ".repeat(192) + "1", 199);
        fault("(s=0)&".repeat(32) + "(s=0) ;n", -1);
        fault("s".repeat(200), 1);
        fault("(".repeat(200), 8);
        RunDesk x = new RunDesk();
        x.runner(0, 300, 40, 0, 1, 0);
        x.saw(0, 0, 0);
        x.saw(0, 1, 300);
        Check.feed(x, "(s=0)&".repeat(32) + "(s=0) ;n");
        Check.due("33 brackets hold", x.many(), 1);
        Check.write(x, "s=1|".repeat(48) + "s=0;n;1");
        Check.due("the last of 49 parts holds", x.many(), 1);
        Check.write(x, "s=0&".repeat(48) + "s=1;n;1");
        Check.due("the last of 49 units does not", x.many(), 0);
    }

    private static void firstBytesAlone() {
        Doc.says(22, "The TEXT has its first n bytes alone.");
        RunDesk x = new RunDesk();
        Check.yes("end(0) of no bytes", x.end(0));
        Check.feed(x, "s=1;n;12345");
        int[] faults = {0, 1, 2, 3, 4, -1, 6, -1, -1, -1, -1, -1};
        for (int n = 11; n >= 0; n--) {
            Check.yes("end(" + n + ")", x.end(n));
            Check.due("bytes", x.count(3), n);
            Check.due("FAULT of " + n, x.fault(), faults[n]);
        }
        Check.feed(x, "s=1;n");
        Check.due("the bytes behind are gone", x.count(3), 5);
        Check.due("a new TEXT", x.fault(), -1);
        x.end(3);
        Check.feed(x, "&k=2;g;1");
        Check.due("it goes on behind its end", x.fault(), -1);
        Check.due("bytes of it", x.count(3), 11);
    }

    private static void noSuchEnd() {
        Doc.says(22, "False: n.");
        RunDesk x = new RunDesk();
        int[] wrong = {-1, -2, 1, 2, 200, 201, MIN, MAX};
        for (int n : wrong) {
            Check.no("end(" + n + ") of no bytes", x.end(n));
        }
        Check.feed(x, TWENTY.repeat(10));
        int[] wrongOfAll = {-1, -200, 201, 202, MIN, MAX};
        for (int n : wrongOfAll) {
            Check.no("end(" + n + ") of 200", x.end(n));
        }
        Check.due("all are there", x.count(3), 200);
        Check.yes("end(200)", x.end(200));
        Check.due("all are there still", x.count(3), 200);
        Check.yes("end(199)", x.end(199));
        Check.no("end(200) of 199", x.end(200));
    }

    private static void faultNone() {
        Doc.says(23, "The TEXT's FAULT; NONE: it has none.");
        RunDesk x = new RunDesk();
        Check.due("of a new object", x.fault(), 0);
        Check.due("asked again", x.fault(), 0);
        Check.write(x, "s=1;n");
        Check.due("none", x.fault(), -1);
        Check.due("none, asked again", x.fault(), -1);
        x.end(0);
        Check.due("of no bytes", x.fault(), 0);
        Check.write(x, "s=1;n");
        x.way(9);
        Check.due("the TEXT is not the WAY's", x.fault(), -1);
    }
}
