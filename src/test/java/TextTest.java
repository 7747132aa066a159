/** Promises 21 to 23: feed, end, fault. */
final class TextTest {
    private static final int MIN = Integer.MIN_VALUE;
    private static final int MAX = Integer.MAX_VALUE;

    private TextTest() {
    }

    static void run() {
        feed();
        most();
        end();
        wholeTexts();
        faults();
        numbers();
        brackets();
        everyByte();
    }

    private static void feed() {
        RunDesk x = new RunDesk();
        Check.due("feed(0)", x.feed(0), 0);
        Check.due("the lowest byte", x.feed('s'), 1);
        Check.due("the highest byte", x.feed('=' << 24), 2);
        Check.due("0 is left out between", x.feed('1' << 24 | ';'), 4);
        Check.due("the last", x.feed('n' << 8), 5);
        Check.due("s=1;n", x.fault(), -1);
        Check.due("bytes above 127", x.feed(0xFFFEFDFC), 9);
        Check.due("their FAULT", x.fault(), 5);
    }

    private static void most() {
        RunDesk x = new RunDesk();
        for (int i = 1; i < 50; i++) {
            Check.due("feed " + i, x.feed(0x20202020), 4 * i);
        }
        Check.due("199", x.feed(0x20202000), 199);
        Check.due("201 are too many", x.feed(0x20002000), -1);
        Check.due("203 are too many", x.feed(0x20202020), -1);
        Check.due("nothing was taken", x.count(3), 199);
        Check.due("200", x.feed(0x00200000), 200);
        Check.due("201", x.feed(1), -1);
        Check.due("four 0s still fit", x.feed(0), 200);
        Check.due("the end is the FAULT", x.fault(), 200);
        x.end(195);
        Check.feed(x, "s=1;n");
        Check.due("a TEXT of 200", x.fault(), -1);
    }

    private static void end() {
        RunDesk x = new RunDesk();
        Check.yes("end(0) of nothing", x.end(0));
        Check.no("end(1) of nothing", x.end(1));
        Check.feed(x, "s=1;n;2");
        int[] wrong = {-1, 8, 200, MIN, MAX};
        for (int n : wrong) {
            Check.no("end(" + n + ")", x.end(n));
        }
        Check.due("all bytes", x.count(3), 7);
        Check.yes("end(7)", x.end(7));
        Check.due("all bytes still", x.count(3), 7);
        Check.yes("end(5)", x.end(5));
        Check.due("five", x.count(3), 5);
        Check.due("s=1;n", x.fault(), -1);
        Check.no("end(6)", x.end(6));
        Check.yes("end(3)", x.end(3));
        Check.due("s=1", x.fault(), 3);
        Check.feed(x, "2;g");
        Check.due("s=12;g", x.fault(), -1);
    }

    private static void fault(String text, int want) {
        RunDesk x = new RunDesk();
        Check.feed(x, text);
        Check.due("fault of '" + text + "'", x.fault(), want);
    }

    private static void wholeTexts() {
        String[] whole = {
            "s=0;n", "y<40;g", "t>3;n;5", "p=1;g;00000", "k=99999;n;99999", "s=1&y<40|k=2;n",
            "(s=1);n", "((s=1|y=2)&(t=3));n", " ( s = 1 ) & y < 40 ; n ; 3 ", "  s  =  1  ;  g  ",
            "(s=1)|(s=0);n", "s=1;n "
        };
        for (String text : whole) {
            fault(text, -1);
        }
    }

    private static void faults() {
        String[] first = {"", "n", "g", "1", "=", "<", "&", "|", ")", ";", "x", "S", "\t", "\n"};
        for (String text : first) {
            fault(text, 0);
        }
        fault("   ", 3);
        String[] second = {"s", "ss", "s1", "s;", "s(", "s)", "s&", "sn"};
        for (String text : second) {
            fault(text, 1);
        }
        String[] third = {"s=", "s==", "s<=", "s<>", "s=s", "s=;", "s=(", "s=n", "s=-1"};
        for (String text : third) {
            fault(text, 2);
        }
        String[] fourth = {"s=1", "s=1s", "s=1n", "s=1(", "s=1)", "s=1=", "s=1x"};
        for (String text : fourth) {
            fault(text, 3);
        }
        String[] fifth = {"s=1;", "s=1;s", "s=1;;", "s=1;1", "s=1&", "s=1&&", "s=1|)", "s=1&;", "s=1 2"};
        for (String text : fifth) {
            fault(text, 4);
        }
        String[] sixth = {"s=1;nn", "s=1;n1", "s=1;n&", "s=1;gn"};
        for (String text : sixth) {
            fault(text, 5);
        }
        String[] seventh = {"s=1;n;", "s=1;n;;", "s=1;n;n", "s=1;n; "};
        fault(seventh[0], 6);
        fault(seventh[1], 6);
        fault(seventh[2], 6);
        fault(seventh[3], 7);
        fault("s=1;n;1;", 7);
        fault("s=1;n;1 1", 8);
        fault("s=1;n;1n", 7);
    }

    private static void numbers() {
        fault("s=12345;n", -1);
        fault("s=123456;n", 7);
        fault("s=000001;n", 7);
        fault("s=12345 6;n", 8);
        fault("s=12345&y=12345;n;12345", -1);
        fault("s=1;n;123456", 11);
        fault("s=1;n;000000", 11);
        fault("s=12345;n;123456", 15);
    }

    private static void brackets() {
        fault("((((((((s=1))))))));n", -1);
        fault("(((((((((s=1)))))))));n", 8);
        fault("( ( ( ( ( ( ( ( (", 16);
        fault("((((((((s=1)&(s=1))))))));n", -1);
        fault("((((((((s=1)&((s=1))))))));n", 14);
        fault("(s=1)&(s=1)&(s=1)&(s=1)&(s=1)&(s=1)&(s=1)&(s=1)&(s=1)&(s=1);n", -1);
        fault("()", 1);
        fault("(s=1));n", 5);
        fault("(s=1;n", 4);
        fault("(s=1)(s=1)", 5);
        fault("(s=1)s=1", 5);
        fault("(s=1", 4);
        fault("s=1&(", 5);
        fault("((((((((", 8);
    }

    /** At each stage of a TEXT, which bytes can go on. */
    private static void everyByte() {
        String[] begun = {"", "s", "s=", "s=1", "s=12345", "s=1 ", "(s=1", "s=1;", "s=1;n", "s=1;n;", "s=1;n;1",
            "s=1;n;1 ", "s=1;n;12345", "(", "(s=1)", "s=1&", "s=1|"};
        String[] goOn = {" (sytpk", " =<>", " 0123456789", " 0123456789&|;", " &|;", " &|;", " 0123456789&|)", " ng",
            " ;", " 0123456789", " 0123456789", " ", " ", " (sytpk", " &|;", " (sytpk", " (sytpk"};
        for (int i = 0; i < begun.length; i++) {
            for (int sign = 1; sign < 256; sign++) {
                RunDesk x = new RunDesk();
                Check.feed(x, begun[i] + (char) sign);
                boolean isFault = x.fault() == begun[i].length();
                boolean can = goOn[i].indexOf(sign) >= 0;
                Check.due("'" + begun[i] + "' goes on with " + sign, isFault ? 0 : 1, can ? 1 : 0);
            }
        }
    }
}
