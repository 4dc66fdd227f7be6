/** Promises 1 to 5: a new object, feed, text, fault, named. */
final class TextTest {
    private static final Check CHECK = new Check();

    public static void main(String[] args) {
        newObject();
        feeding();
        reading();
        limits();
        grammar();
        toldAlready();
        tooManyInstructions();
        firstFault();
        names();
        nothingOfTextsAhead();
        whatStays();
        CHECK.end();
    }

    private static void newObject() {
        TwinThreads x = new TwinThreads();
        CHECK.due("new fault(0)", x.fault(0), 0);
        CHECK.due("new fault(1)", x.fault(1), -1);
        CHECK.due("new fault(2)", x.fault(2), -1);
        CHECK.due("new fault(-1)", x.fault(-1), -1);
        CHECK.due("new count(0)", x.count(0), 0);
        CHECK.due("new text(1)", x.text(1), -2);
        CHECK.due("new text(-1)", x.text(-1), -2);
        CHECK.due("new text(0)", x.text(0), 0);
        CHECK.due("new text(MAX)", x.text(Integer.MAX_VALUE), -2);
        CHECK.due("new text(MIN)", x.text(Integer.MIN_VALUE), -2);
        CHECK.due("NONE", TwinThreads.NONE, -1);
    }

    private static void feeding() {
        TwinThreads x = new TwinThreads();
        for (int k = 1; k <= 35; k++) {
            CHECK.due("feed " + k, x.feed(0x20202020, 0x20202020, 0x20202020, 0x20202020, 0x20202020), 20 * k);
        }
        CHECK.due("feed 36", x.feed(0, 0, 0, 0, 0), -1);
        CHECK.due("text(701)", x.text(701), -2);
        CHECK.due("text(700)", x.text(700), 0);
        CHECK.due("text(1) of an empty tape", x.text(1), -2);
        CHECK.due("feed of an empty tape", x.feed(0x68616C74, 0x3B000000, 0, 0, 0), 20);
        CHECK.due("text(5)", x.text(5), 1);
        CHECK.due("count(0)", x.count(0), 1);
        CHECK.due("text(1), emptied", x.text(1), -2);
    }

    private static void fault(String text, int fault, int place) {
        TwinThreads x = new TwinThreads();
        CHECK.due("text of \"" + text + "\"", Check.tell(x, text), -1);
        CHECK.due("fault(0) of \"" + text + "\"", x.fault(0), fault);
        CHECK.due("fault(1) of \"" + text + "\"", x.fault(1), place);
        CHECK.due("the tape is empty behind \"" + text + "\"", x.text(1), -2);
    }

    private static void fine(String text, int lines, int instructions) {
        TwinThreads x = new TwinThreads();
        CHECK.due("text of \"" + text + "\"", Check.tell(x, text), lines);
        CHECK.due("fault(0) of \"" + text + "\"", x.fault(0), 0);
        CHECK.due("fault(1) of \"" + text + "\"", x.fault(1), -1);
        CHECK.due("count(0) of \"" + text + "\"", x.count(0), instructions);
    }

    private static void reading() {
        fine("", 0, 0);
        fine(" \n ", 0, 0);
        fine("halt;", 1, 1);
        fine("\nhalt\n;\n", 1, 1);
        fine("set0 007;", 1, 1);
        fine("set\n0\n\n12;halt;", 2, 2);
        fine("set 0 00000000000000000000001;", 1, 1);
        fine("data 0 1;data 1 1;data 31 99999;", 3, 0);
        fine("span 1;slack 8 9;queues 1 1 1;tries 1;seed 0;", 5, 0);
        fine("at zzzzzz;at a;jump a;jump zzzzzz;", 4, 2);
        fine("add 0 1 2;sub 3 4 5;mul 6 7 0;xor 1 1 1;load 0 7 31;store 7 0 0;out 7;real 3 7;whole 7 3;bits 0 0;"
            + "plus 0 1 2;times 3 3 3;jump w;zero 7 w;less 0 7 w;under 0 3 w;halt;at w;", 18, 17);
    }

    private static void limits() {
        String[] least = {"span 1;", "slack 0 1;", "queues 1 1 1;", "tries 1;", "seed 0;", "data 0 0;", "set 0 0;",
            "load 0 0 0;"};
        for (String text : least) {
            fine(text, 1, text.startsWith("set") || text.startsWith("load") ? 1 : 0);
        }
        String[] most = {"span 40;", "slack 8 9;", "queues 8 8 8;", "tries 9;", "seed 99999;", "data 31 99999;"};
        for (String text : most) {
            fine(text, 1, 0);
        }
        fault("span 0;", 2, 5);
        fault("span 41;", 2, 5);
        fault("slack 9 9;", 2, 6);
        fault("slack 8 10;", 2, 8);
        fault("slack 0 0;", 2, 8);
        fault("slack 5 5;", 2, 8);
        fault("slack 5 4;", 2, 8);
        fault("queues 0 1 1;", 2, 7);
        fault("queues 1 9 1;", 2, 9);
        fault("queues 1 1 9;", 2, 11);
        fault("tries 0;", 2, 6);
        fault("tries 10;", 2, 6);
        fault("seed 100000;", 2, 5);
        fault("seed 4294967296;", 2, 5);
        fault("seed 18446744073709551616;", 2, 5);
        fault("data 32 0;", 2, 5);
        fault("data 0 100000;", 2, 7);
        fault("set 8 0;", 2, 4);
        fault("set 7 100000;", 2, 6);
        fault("add 0 0 8;", 2, 8);
        fault("sub 0 8 0;", 2, 6);
        fault("mul 8 0 0;", 2, 4);
        fault("xor 0 0 9;", 2, 8);
        fault("load 0 8 0;", 2, 7);
        fault("load 0 0 32;", 2, 9);
        fault("store 0 8 0;", 2, 8);
        fault("store 0 7 32;", 2, 10);
        fault("out 8;", 2, 4);
        fault("real 4 0;", 2, 5);
        fault("real 3 8;", 2, 7);
        fault("whole 8 0;", 2, 6);
        fault("whole 7 4;", 2, 8);
        fault("bits 8 3;", 2, 5);
        fault("bits 7 4;", 2, 7);
        fault("plus 0 4 0;", 2, 7);
        fault("times 0 0 4;", 2, 10);
        fault("zero 8 a;", 2, 5);
        fault("less 0 8 a;", 2, 7);
        fault("under 4 0 a;", 2, 6);
        fault("under 0 4 a;", 2, 8);
    }

    private static void grammar() {
        fault(";", 1, 0);
        fault("halt;;", 1, 5);
        fault("halt", 1, 4);
        fault("halt \n", 1, 6);
        fault("set", 1, 3);
        fault("set 1", 1, 5);
        fault("set 1 2", 1, 7);
        fault("set 1 ;", 1, 6);
        fault("set a 1;", 1, 4);
        fault("set 1 2 3;", 1, 8);
        fault("halt 1;", 1, 5);
        fault("foo;", 1, 0);
        fault("1;", 1, 0);
        fault("Halt;", 1, 0);
        fault("halt\t;", 1, 4);
        fault("halt\r;", 1, 4);
        fault("halt;\u00e9", 1, 5);
        fault("halt;\0", 1, 5);
        fault("set 0 -1;", 1, 6);
        fault("at halt;", 1, 3);
        fault("at at;", 1, 3);
        fault("at queues;", 1, 3);
        fault("at abcdefg;", 1, 3);
        fault("at 1;", 1, 3);
        fault("at ;", 1, 3);
        fault("jump set;", 1, 5);
        fault("jump 3;", 1, 5);
        fault("jump longer;jump longest;", 1, 17);
        fault("zero 1 ;", 1, 7);
        fault("less 1 a;", 1, 7);
        fault("halts;", 1, 0);
        fault("sp an 1;", 1, 0);
        fault("at a b;", 1, 5);
    }

    private static void toldAlready() {
        fault("span 1;span 1;", 3, 7);
        fault("slack 1 2; slack 1 2;", 3, 11);
        fault("queues 1 1 1;queues 1 1 1;", 3, 13);
        fault("tries 1;tries x;", 3, 8);
        fault("seed 1;halt;seed 99999999;", 3, 12);
        fault("data 7 1;data 8 1;data 7 1;", 3, 23);
        fault("data 0 1;data 00 1;", 3, 14);
        fault("at a;halt;at a;", 3, 13);
        fault("at aa;at aaa;at aa;", 3, 16);
    }

    private static void tooManyInstructions() {
        StringBuilder text = new StringBuilder();
        for (int k = 0; k < 40; k++) {
            text.append("halt;");
        }
        fine(text.toString(), 40, 40);
        fine(text + "at a;", 41, 40);
        fault(text + "halt;", 2, 200);
        fault(text + "set x;", 2, 200);
        fault(text + "foo;", 1, 200);
        TwinThreads x = Check.told(text + "at a;");
        CHECK.due("named behind the last", x.named(Check.letters("a")), 40);
    }

    private static void firstFault() {
        fault("jump nowhe;span 0;", 2, 16);
        fault("jump nowhe;", 4, 5);
        fault("at a;jump a;zero 0 b;less 0 0 c;", 4, 19);
        fault("under 0 1 x;halt;at y;jump y;", 4, 10);
        fault("span 1;span 0;", 3, 7);
        fault("data 40 1;data x 1;", 2, 5);
    }

    private static void names() {
        TwinThreads x = Check.told("at a;set 0 1;at b;at abcdef;out 0;at z;");
        CHECK.due("named a", x.named(Check.letters("a")), 0);
        CHECK.due("named b", x.named(Check.letters("b")), 1);
        CHECK.due("named abcdef", x.named(Check.letters("abcdef")), 1);
        CHECK.due("named z", x.named(Check.letters("z")), 2);
        CHECK.due("named abcde", x.named(Check.letters("abcde")), -1);
        CHECK.due("named set", x.named(Check.letters("set")), -1);
        CHECK.due("named 0", x.named(0), -1);
        CHECK.due("named 1", x.named(1), -1);
        CHECK.due("named -1", x.named(-1), -1);
        CHECK.due("named a with a bit above", x.named(Check.letters("a") | 1 << 30), -1);
        StringBuilder many = new StringBuilder();
        for (char c = 'a'; c <= 'z'; c++) {
            many.append("at ").append(c).append(';');
        }
        int lines = 26;
        for (char c = 'a'; c <= 'd' ; c++) {
            for (char d = 'a'; d <= 'z' && many.length() + 6 <= 700; d++) {
                if (c == 'a' && d == 't') {
                    continue;
                }
                many.append("at ").append(c).append(d).append(';');
                lines++;
            }
        }
        TwinThreads full = new TwinThreads();
        CHECK.due("many names", Check.tell(full, many.toString()), lines);
        CHECK.due("the last of many names", full.named(Check.letters("dq")), 0);
    }

    private static void nothingOfTextsAhead() {
        StringBuilder full = new StringBuilder("span 1;slack 8 9;queues 1 1 1;tries 1;seed 5;");
        for (int k = 0; k < 32; k++) {
            full.append("data ").append(k).append(" 7;");
        }
        for (int k = 0; k < 30; k++) {
            full.append("out 0;");
        }
        TwinThreads x = Check.told(full.toString());
        CHECK.due("halt", Check.tell(x, "halt;"), 1);
        CHECK.due("an empty text", x.text(0), 0);
        for (int k = 0; k < 64; k++) {
            CHECK.due("memory(" + k + ")", x.memory(k), 0);
        }
        CHECK.due("count(0)", x.count(0), 0);
        CHECK.due("thread(0, 2)", Check.thread(x, 0, 2), 1);
        CHECK.due("plain(9, 2)", x.plain(9, 2), 0);
        for (int bit = 0; bit < 6; bit++) {
            x.flip(4, 0, bit);
            CHECK.due("thread(0, 2) at " + Check.thread(x, 0, 0), Check.thread(x, 0, 2), 1);
        }
        CHECK.due("a text by what isn't told", Check.tell(x, "slack 3 4;out 0;out 0;out 0;out 0;out 0;out 0;"), 7);
        CHECK.due("the first point", x.go(9) * 100 + x.count(2) * 10 + x.count(11), 914);
        CHECK.due("tries", x.stick(0, 0, 0, true), true);
        x.go(300);
        CHECK.due("three tries", x.count(3), 3);
    }

    private static void whatStays() {
        TwinThreads x = Check.told("at a;set 0 5;out 0;halt;");
        x.go(3);
        x.keep();
        x.stick(0, 1, 1, true);
        CHECK.due("a faulty text", Check.tell(x, "at b;set 8 5;"), -1);
        CHECK.due("fault(0)", x.fault(0), 2);
        CHECK.due("fault(1)", x.fault(1), 9);
        CHECK.due("count(0) stays", x.count(0), 3);
        CHECK.due("count(1) stays", x.count(1), 3);
        CHECK.due("count(17) stays", x.count(17), 1);
        CHECK.due("named a stays", x.named(Check.letters("a")), 0);
        CHECK.due("named b isn't told", x.named(Check.letters("b")), -1);
        CHECK.due("the image stays", x.back(), 3);
        CHECK.due("text(21) of too few", x.text(21), -2);
        CHECK.due("fault(0) of the latest that was not -2", x.fault(0), 2);
        CHECK.due("a good text", Check.tell(x, "halt;"), 1);
        CHECK.due("fault(0)", x.fault(0), 0);
        CHECK.due("fault(1)", x.fault(1), -1);
        CHECK.due("back() without an image", x.back(), -1);
        CHECK.due("count(1) behind a text", x.count(1), 0);
        CHECK.due("count(17) behind a text", x.count(17), 0);
        CHECK.due("named a is gone", x.named(Check.letters("a")), -1);
        TwinThreads tape = new TwinThreads();
        tape.feed(0x68616C74, 0x3B202020, 0, 0, 0);
        CHECK.due("too long, and the tape stays", tape.text(21), -2);
        CHECK.due("below 0, and the tape stays", tape.text(-1), -2);
        CHECK.due("the tape has stayed", tape.text(8), 1);
    }
}
