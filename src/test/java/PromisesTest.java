/** Each promise with ordinary inputs, the edges that the document names, and wrong inputs. */
public final class PromisesTest {
    private static final int NONE = -1;
    private static final int LEAST = Integer.MIN_VALUE;
    private static final int MOST = Integer.MAX_VALUE;

    public static void main(String[] args) {
        promise1();
        promise2();
        promise3();
        promise4();
        promise5();
        promise6();
        promise7();
        promise8();
        promise9();
        promise10();
        promise11();
        promise12();
        promise13();
        promise14();
        promise15();
        Checks.finish();
    }

    /** A new object: no TEXT; nothing was read. */
    private static void promise1() {
        Counted x = new Counted();
        for (int what = 0; what < 4; what++) {
            Checks.due("new: count " + what, x.count(what), 0);
        }
        Checks.due("new: fault 0", x.fault(0), 0);
        Checks.due("new: fault 1", x.fault(1), NONE);
        Checks.due("new: statement", x.statement(0, 0), NONE);
        Checks.due("new: operand", x.operand(0, 0), NONE);
        Checks.due("new: constant", x.constant(0), UnitText.NOTHING);
        Checks.due("new: item", x.item(0, 0), 0);
        Checks.due("new: name", x.name(0, 0), NONE);
        Checks.due("new: string", x.string(0, 0), NONE);
        Checks.due("new: find", x.find(0x6100000000000000L, 0), NONE);
        Checks.due("new: tell", x.tell(0), NONE);
        Checks.due("new: letter", x.letter(0), NONE);
        Checks.due("new: end", x.end(0), 0);
        Checks.same("new: read", Checks.outcome(x, ""), "read 0");
        Checks.due("NONE", UnitText.NONE, -1);
        Checks.due("NOTHING", UnitText.NOTHING, 1099511627776L);
    }

    private static void promise2() {
        Counted x = new Counted();
        x.feed(0x2E737472, 0x20226162, 0x63646566, 0x6768696A, 0x6B6C6D22);
        Checks.due("feed: end 20", x.end(20), 20);
        Checks.same("feed: read", Checks.outcome(x, ""), "read 1");
        Checks.same("feed: the highest first", Checks.told(x, 0), ".str \"abcdefghijklm\"");
        x.feed(0x61616161, 0x61616161, 0, 0, 0);
        x.feed(0x62636465, 0x20202020, 0x20202020, 0x20202020, 0x20202020);
        x.end(4);
        Checks.same("feed: read of the later", Checks.outcome(x, ""), "read 1");
        Checks.same("feed: the later bytes wait", Checks.told(x, 0), "bcde");
        x.feed(0x23E90000, 0, 0, 0, 0);
        x.end(2);
        Checks.same("feed: a byte above 127", Checks.outcome(x, ""), "fault 1 at 1");
        x.feed(0x23FFFFFF, -1, -1, -1, -1);
        x.end(20);
        Checks.same("feed: negative ints", Checks.outcome(x, ""), "fault 1 at 1");
    }

    private static void promise3() {
        Counted x = new Counted();
        int[] refused = {-1, 21, LEAST, MOST};
        x.feed(0x61203120, 0, 0, 0, 0);
        for (int n : refused) {
            Checks.due("end " + n, x.end(n), NONE);
        }
        Checks.due("end: what waits stays when refused", x.end(3), 3);
        Checks.due("end: zeros wait then", x.end(1), 4);
        Checks.same("end: a 0 is no word", Checks.outcome(x, ""), "fault 1 at 3");
        x.feed(0x61616161, 0, 0, 0, 0);
        Checks.due("end 0", x.end(0), 0);
        Checks.due("end behind end 0", x.end(2), 2);
        Checks.same("end 0 leaves zeros", Checks.outcome(x, ""), "fault 1 at 0");
        for (int i = 1; i <= 149; i++) {
            x.feed(0x20202020, 0x20202020, 0x20202020, 0x20202020, 0x20202020);
            Checks.due("end: all so far", x.end(20), 20 * i);
        }
        x.feed(0x20202020, 0x20202020, 0x20202020, 0x20202020, 0x20202020);
        Checks.due("end: 2999", x.end(19), 2999);
        x.feed(0x0A610000, 0, 0, 0, 0);
        Checks.due("end: 3001", x.end(2), NONE);
        Checks.due("end: 3000", x.end(1), 3000);
        Checks.due("end: full", x.end(1), NONE);
        Checks.due("end: nothing more", x.end(0), 3000);
        Checks.same("end: read", Checks.outcome(x, ""), "read 0");
        Checks.due("end: the TEXT is empty again", x.end(0), 0);
    }

    private static void promise4() {
        Counted x = new Counted();
        Checks.same("read", Checks.outcome(x, "a: 1: b c, 2\n\n# only a comment\n\td"), "read 4");
        Checks.due("read takes the TEXT", x.end(0), 0);
        Checks.same("read: a fault", Checks.outcome(x, "x: y\nz ,"), "fault 5 at 7");
        Checks.due("read with a fault takes the TEXT, too", x.end(0), 0);
        Checks.due("read with a fault: statements stay", x.count(0), 4);
        Checks.due("read with a fault: names stay", x.count(3), 4);
        Checks.same("read with a fault: name stays", Checks.nameOf(x, 0), "a");
        Checks.same("read with a fault: the first tells", Checks.told(x, 2), "b c, 2");
        Checks.same("read again", Checks.outcome(x, "n"), "read 1");
        Checks.due("read again: statements", x.count(0), 1);
        Checks.due("read again: operands", x.count(1), 0);
        Checks.due("read again: items", x.count(2), 0);
        Checks.same("read again: names", Checks.nameOf(x, 0), "n");
        Checks.same("read of nothing", Checks.outcome(x, ""), "read 0");
        Checks.due("read of nothing: none", x.statement(0, 0), NONE);
        x.feed(0x61620000, 0, 0, 0, 0);
        Checks.same("read with bytes that wait", Checks.outcome(x, ""), "read 0");
        Checks.due("read leaves what waits", x.end(2), 2);
        Checks.same("read of what waited", Checks.outcome(x, ""), "read 1");
        Checks.same("read: words without blanks", Checks.outcome(x, "a:1:w\"s\"\nw(a0)\nw-1,%hi(b)(a0)"), "read 5");
    }

    private static void promise5() {
        Counted x = new Counted();
        Checks.same("fault", Checks.outcome(x, "ok $"), "fault 1 at 3");
        Checks.due("fault 2", x.fault(2), NONE);
        Checks.due("fault -1", x.fault(-1), NONE);
        Checks.due("fault least", x.fault(LEAST), NONE);
        Checks.due("fault most", x.fault(MOST), NONE);
        Checks.same("fault: the latest", Checks.outcome(x, "1 2"), "fault 5 at 2");
        Checks.due("fault: still", x.fault(0), 5);
        Checks.same("fault: none", Checks.outcome(x, "ok"), "read 1");
        Checks.due("fault: none then", x.fault(0), 0);
        Checks.due("fault: no place then", x.fault(1), NONE);
    }

    private static void promise6() {
        Counted x = Checks.reader("a: 1: w a0, b+c*3, \"s\", 4(sp)\n w b, a");
        Checks.due("count 0", x.count(0), 4);
        Checks.due("count 1", x.count(1), 6);
        Checks.due("count 2", x.count(2), 8);
        Checks.due("count 3", x.count(3), 4);
        Checks.due("count 4", x.count(4), NONE);
        Checks.due("count -1", x.count(-1), NONE);
        Checks.due("count least", x.count(LEAST), NONE);
    }

    private static void statementIs(Counted x, int k, int... want) {
        for (int what = 0; what < 6; what++) {
            Checks.due("statement " + k + ", " + what, x.statement(k, what), want[what]);
        }
        Checks.due("statement " + k + ", 6", x.statement(k, 6), NONE);
        Checks.due("statement " + k + ", -1", x.statement(k, -1), NONE);
        Checks.due("statement " + k + ", least", x.statement(k, LEAST), NONE);
    }

    private static void promise7() {
        Counted x = Checks.reader("a: 7 : w 1, 2\n\n b\n0:\nw a0\nc: x5 # end");
        statementIs(x, 0, 0, 0, 0, 0, 0, 0);
        statementIs(x, 1, 1, 7, 0, 0, 3, 0);
        statementIs(x, 2, 2, 1, 0, 2, 7, 0);
        statementIs(x, 3, 2, 2, 2, 0, 16, 2);
        statementIs(x, 4, 1, 0, 2, 0, 18, 3);
        statementIs(x, 5, 2, 1, 2, 1, 21, 4);
        statementIs(x, 6, 0, 3, 3, 0, 26, 5);
        statementIs(x, 7, 2, 4, 3, 0, 29, 5);
        Checks.same("a register's name as a word is numbered", Checks.nameOf(x, 4), "x5");
        for (int k : new int[] {-1, 8, LEAST, MOST, 400}) {
            Checks.due("statement " + k, x.statement(k, 0), NONE);
        }
    }

    private static void operandIs(Counted x, int j, int... want) {
        for (int what = 0; what < 7; what++) {
            Checks.due("operand " + j + ", " + what, x.operand(j, what), want[what]);
        }
        for (int what : new int[] {7, 8, -1, LEAST, MOST}) {
            Checks.due("operand " + j + ", " + what, x.operand(j, what), NONE);
        }
    }

    private static void promise8() {
        Counted x = Checks.reader("w a0, 1+2, (sp), -4(fp), %lo(b), %pcrel_lo(c)(t6), \"a\\n\", \"\", (1)(ra), (2)");
        operandIs(x, 0, 1, 10, 0, 0, 0, 2, 0);
        operandIs(x, 1, 0, NONE, 0, 0, 3, 6, 0);
        operandIs(x, 2, 2, 2, 0, 3, 1, 11, 0);
        operandIs(x, 3, 2, 8, 0, 4, 2, 17, 0);
        operandIs(x, 4, 0, NONE, 2, 6, 1, 25, 0);
        operandIs(x, 5, 2, 31, 4, 7, 1, 33, 0);
        operandIs(x, 6, 3, NONE, 0, 8, 0, 51, 2);
        operandIs(x, 7, 3, NONE, 0, 8, 0, 58, 0);
        operandIs(x, 8, 2, 1, 0, 8, 1, 62, 0);
        operandIs(x, 9, 0, NONE, 0, 9, 1, 71, 0);
        for (int j : new int[] {-1, 10, LEAST, MOST, 800}) {
            Checks.due("operand " + j, x.operand(j, 0), NONE);
        }
        registers();
    }

    private static void registers() {
        String[] names = ("zero ra sp gp tp t0 t1 t2 s0 s1 a0 a1 a2 a3 a4 a5 a6 a7 "
            + "s2 s3 s4 s5 s6 s7 s8 s9 s10 s11 t3 t4 t5 t6").split(" ");
        for (int i = 0; i < 32; i++) {
            Counted x = Checks.reader("w x" + i + ", " + names[i] + ", 0(" + names[i] + ")");
            for (int j = 0; j < 3; j++) {
                Checks.due("register x" + i, x.operand(j, 1), i);
            }
        }
        Checks.due("register fp", Checks.reader("w fp").operand(0, 1), 8);
        String[] others = "x32 x00 x01 x031 x100 x t7 t00 s12 s01 a8 a00 ft Zero A0 zer zeros fp0 x1$ x1. sp_ x-1".split(" ");
        for (String other : others) {
            Checks.due("no register: " + other, Checks.reader("w " + other).operand(0, 0), 0);
        }
    }

    private static void constantIs(String expression, long want) {
        Checks.due(expression, Checks.reader("w " + expression).constant(0), want);
        Checks.due(expression + " marked", Checks.reader("w %hi(" + expression + ")").constant(0), want);
        Checks.due(expression + " (sp)", Checks.reader("w " + expression + "(sp)").constant(0), want);
    }

    private static void promise9() {
        constantIs("4294967295", -1);
        constantIs("2147483647+1", -2147483648L);
        constantIs("-2147483648-1", 2147483647);
        constantIs("65536*65536+5", 5);
        constantIs("- 2147483648", -2147483648L);
        constantIs("-7/2", -3);
        constantIs("7/-2", -3);
        constantIs("-7%2", -1);
        constantIs("7%-2", 1);
        constantIs("-2147483648/-1", -2147483648L);
        constantIs("-2147483648%-1", 0);
        constantIs("1/0", UnitText.NOTHING);
        constantIs("1%0", UnitText.NOTHING);
        constantIs("0*(1/0)", UnitText.NOTHING);
        constantIs("1<<31", -2147483648L);
        constantIs("1<<32", 1);
        constantIs("1<<-1", -2147483648L);
        constantIs("-1>>1", 2147483647);
        constantIs("-1>>32", -1);
        constantIs("~0", -1);
        constantIs("1|2^3&4<<5+6*7", 1 | 2 ^ 3 & 4 << 5 + 6 * 7);
        constantIs("7*6+5<<4&3^2|1", 7 * 6 + 5 << 4 & 3 ^ 2 | 1);
        constantIs("100-10-1", 89);
        constantIs("100/10/2", 5);
        constantIs("1<<2>>1", 2);
        constantIs("-2*-3", 6);
        constantIs("~-1+1", 1);
        constantIs("'\\n'+'\\t'+'\\0'+'\\\\'+'\\''+'\"'", 10 + 9 + 92 + 39 + 34);
        constantIs("0xfF+0b11+010", 255 + 3 + 10);
        constantIs("a", UnitText.NOTHING);
        constantIs("0*a", UnitText.NOTHING);
        constantIs(".-.", UnitText.NOTHING);
        constantIs("1b-1b", UnitText.NOTHING);
        Counted x = Checks.reader("w (sp), a0, \"s\", \"\", 5");
        Checks.due("a MEMORY without EXPRESSION", x.constant(0), 0);
        Checks.due("a REGISTER", x.constant(1), UnitText.NOTHING);
        Checks.due("a STRING", x.constant(2), UnitText.NOTHING);
        Checks.due("an empty STRING", x.constant(3), UnitText.NOTHING);
        Checks.due("a number", x.constant(4), 5);
        for (int j : new int[] {-1, 5, LEAST, MOST}) {
            Checks.due("constant " + j, x.constant(j), UnitText.NOTHING);
        }
    }

    private static void itemsAre(String expression, String want) {
        Checks.same(expression, Checks.itemsOf(Checks.reader("w " + expression), 0), want);
    }

    private static void promise10() {
        itemsAre("1+2*3", "0:1 0:2 0:3 14 12");
        itemsAre("(1+2)*3", "0:1 0:2 12 0:3 14");
        itemsAre("1-2-3", "0:1 0:2 13 0:3 13");
        itemsAre("-~1", "0:1 11 10");
        itemsAre("-1+2", "0:1 10 0:2 12");
        itemsAre("-(1+2)", "0:1 0:2 12 10");
        itemsAre("1/2%3", "0:1 0:2 15 0:3 16");
        itemsAre("1<<2>>3", "0:1 0:2 17 0:3 18");
        itemsAre("1|2^3&4", "0:1 0:2 0:3 0:4 19 20 21");
        itemsAre("1&2^3|4", "0:1 0:2 19 0:3 20 0:4 21");
        itemsAre("1+2<<3&4", "0:1 0:2 12 0:3 17 0:4 19");
        itemsAre("b+w+b", "1:1 1:0 12 1:1 12");
        itemsAre("0b+9f-0f+1b", "2:0 2:19 12 2:1 13 2:2 12");
        itemsAre(".+4", "3 0:4 12");
        itemsAre("4294967295", "0:-1");
        itemsAre("%hi(c)", "1:1");
        itemsAre("'A'", "0:65");
        Counted x = Checks.reader("w 7, 8");
        Checks.due("item 1", x.item(1, 1), 8);
        for (int what : new int[] {2, -1, LEAST, MOST}) {
            Checks.due("item 0, " + what, x.item(0, what), 0);
        }
        for (int t : new int[] {-1, 2, LEAST, MOST}) {
            Checks.due("item " + t, x.item(t, 1), 0);
        }
    }

    private static void promise11() {
        Counted x = Checks.reader("sixteen_letters_: w a0, hi, %lo(_.$9), ., z9, w\n x1 (sp)\nz9:");
        String[] names = {"sixteen_letters_", "w", "hi", "_.$9", "z9", "x1"};
        Checks.due("names", x.count(3), names.length);
        for (int k = 0; k < names.length; k++) {
            Checks.same("name " + k, Checks.nameOf(x, k), names[k]);
            Checks.due("name's end", x.name(k, names[k].length()), NONE);
            Checks.due("name's beginning", x.name(k, -1), NONE);
            Checks.due("name far off", x.name(k, MOST), NONE);
            Checks.due("name far ahead", x.name(k, LEAST), NONE);
        }
        for (int k : new int[] {-1, 6, LEAST, MOST}) {
            Checks.due("name " + k, x.name(k, 0), NONE);
        }
    }

    private static void promise12() {
        Counted x = Checks.reader("w \"a'\\'\\\"\\\\\\n\\t\\0#~ \", \"\", 1, a0, \"z\"");
        Checks.same("string 0", Checks.stringOf(x, 0), "a''\"\\\n\t\0#~ ");
        Checks.same("string 1", Checks.stringOf(x, 1), "");
        Checks.same("string 4", Checks.stringOf(x, 4), "z");
        for (int j : new int[] {1, 2, 3, -1, 5, LEAST, MOST}) {
            Checks.due("string " + j, x.string(j, 0), NONE);
        }
        for (int i : new int[] {-1, 1, LEAST, MOST}) {
            Checks.due("string 4, " + i, x.string(4, i), NONE);
        }
        // All 3000 bytes of a TEXT: three names and a STRING that fills the rest.
        Counted y = Checks.reader("ab:cd\nw \"" + Checks.many("q", 2989, "") + "z\"");
        Checks.due("a long STRING", y.operand(0, 6), 2990);
        Checks.due("a long STRING's last byte", y.string(0, 2989), 'z');
        Checks.due("behind a long STRING", y.string(0, 2990), NONE);
        Checks.same("a name ahead of a long STRING", Checks.nameOf(y, 1), "cd");
        Checks.faultIs(Checks.many("\n", 2999, "") + "1", 5, 3000);
        Checks.due("the last line", Checks.reader(Checks.many("\n", 2999, "") + "a").statement(0, 5), 2999);
    }

    private static void promise13() {
        Counted x = Checks.reader("loop: sixteen_letters_ a0, l\nlo: a0\n.L1:");
        Checks.due("find loop", x.find(0x6C6F6F7000000000L, 0), 0);
        Checks.due("find loop at the end", x.find(0, 0x6C6F6F70L), 0);
        Checks.due("find loop with gaps", x.find(0x6C00000000006F00L, 0x006F000000000070L), 0);
        Checks.due("find sixteen_letters_", x.find(0x7369787465656E5FL, 0x6C6574746572735FL), 1);
        Checks.due("find l", x.find(0x6CL, 0), 2);
        Checks.due("find lo", x.find(0x6C6FL, 0), 3);
        Checks.due("find a0, which was a word", x.find(0x6130L, 0), 4);
        Checks.due("find .L1", x.find(0x2E4CL, 0x31L << 56), 5);
        Checks.due("find loo", x.find(0x6C6F6FL, 0), NONE);
        Checks.due("find loopx", x.find(0x6C6F6F7078L, 0), NONE);
        Checks.due("find nothing", x.find(0, 0), NONE);
        Checks.due("find bytes above 127", x.find(-1, -1), NONE);
        Checks.due("find ol", x.find(0x6F6CL, 0), NONE);
        Checks.same("find: a fault", Checks.outcome(x, "new: ,"), "fault 5 at 5");
        Checks.due("find what a fault left", x.find(0x6C6FL, 0), 3);
        Checks.due("find what had a fault", x.find(0x6E6577L, 0), NONE);
    }

    private static void toldIs(String text, String want) {
        Counted x = Checks.reader(text);
        Checks.same("tell of <" + text + ">", Checks.told(x, x.count(0) - 1), want);
        Counted y = Checks.reader(want);
        Checks.same("tell again of <" + want + ">", Checks.told(y, 0), want);
    }

    private static void promise14() {
        toldIs("\t abc :", "abc:");
        toldIs("7 :", "7:");
        toldIs("nop # x", "nop");
        toldIs("a0 a0", "a0 x10");
        toldIs("w zero,fp , t6", "w x0, x8, x31");
        toldIs("w\"\\'\\\"\\\\\\n\\t\\0 '#\"", "w \"'\\\"\\\\\\n\\t\\0 '#\"");
        toldIs("w \"\"", "w \"\"");
        toldIs("w 0xffffffff,0b0,007,'a'", "w 4294967295, 0, 7, 97");
        toldIs("w 10,999999999,1000000000,9", "w 10, 999999999, 1000000000, 9");
        toldIs("w b+.-1f*0b", "w b + . - 1f * 0b");
        toldIs("w (1+2)*3,1+(2*3),(1*2)+3,1*(2+3)", "w (1 + 2) * 3, 1 + 2 * 3, 1 * 2 + 3, 1 * (2 + 3)");
        toldIs("w 1-(2-3),(1-2)-3,1+(2+3)", "w 1 - (2 - 3), 1 - 2 - 3, 1 + (2 + 3)");
        toldIs("w (1|2)^3,1|(2^3),(1^2)&3,(1&2)<<3", "w (1 | 2) ^ 3, 1 | 2 ^ 3, (1 ^ 2) & 3, (1 & 2) << 3");
        toldIs("w (1<<2)+3,1<<(2>>3),(1<<2)>>3", "w (1 << 2) + 3, 1 << (2 >> 3), 1 << 2 >> 3");
        toldIs("w 1*(2/3),1%(2*3),1/2%3", "w 1 * (2 / 3), 1 % (2 * 3), 1 / 2 % 3");
        toldIs("w - - 1,~(-1),-(~(1)),-(1*2),~(1|2),(-1)*2,1- -2", "w --1, ~-1, -~1, -(1 * 2), ~(1 | 2), -1 * 2, 1 - -2");
        toldIs("w % hi ( b+1 ),%lo(b)(sp),%pcrel_hi((1)),%pcrel_lo(c)(x1)",
            "w %hi(b + 1), %lo(b)(x2), %pcrel_hi(1), %pcrel_lo(c)(x1)");
        toldIs("w (sp),8(sp),(1+2)(sp),1+2 (sp),-1(sp)", "w 0(x2), 8(x2), 1 + 2(x2), 1 + 2(x2), -1(x2)");
        toldIs("w " + Checks.many("1", 30, "+"), "w " + Checks.many("1", 30, " + "));
        Counted x = Checks.reader("a b");
        Checks.due("tell", x.tell(0), 3);
        for (int k : new int[] {-1, 1, LEAST, MOST}) {
            Checks.due("tell " + k, x.tell(k), NONE);
            Checks.due("OUT stays", x.letter(2), 'b');
        }
        longestTold();
    }

    /** The largest growth there is: each sign of one byte gets two blanks. */
    private static void longestTold() {
        String most = "w " + Checks.many(Checks.many("1", 30, "+"), 33, ",") + "," + Checks.many("1", 26, "*");
        Checks.same("tell of a long word", new Readers(most).told(0),
            most.replace("+", " + ").replace("*", " * ").replace(",", ", "));
        String memories = "w " + Checks.many("(a7)", 599, ",");
        Checks.same("tell of many MEMORIES", new Readers(memories).told(0),
            memories.replace("(a7)", "0(x17)").replace(",", ", "));
        String name = "w " + Checks.many("sixteen_letters_", 176, ",");
        Checks.same("tell of names", new Readers(name).told(0), name.replace(",", ", "));
        String string = "w \"" + Checks.many("\\\\", 1498, "") + "\"";
        Checks.same("tell of a long STRING", new Readers(string).told(0), string);
    }

    private static void promise15() {
        Counted x = Checks.reader("ab 1\nc:");
        Checks.due("letter: nothing told", x.letter(0), NONE);
        x.tell(0);
        Checks.due("letter 0", x.letter(0), 'a');
        Checks.due("letter 3", x.letter(3), '1');
        for (int i : new int[] {4, -1, LEAST, MOST}) {
            Checks.due("letter " + i, x.letter(i), NONE);
        }
        x.tell(1);
        Checks.due("letter of a shorter OUT", x.letter(1), ':');
        Checks.due("letter behind a shorter OUT", x.letter(2), NONE);
        Checks.same("a read", Checks.outcome(x, ""), "read 0");
        Checks.due("OUT stays behind read", x.letter(0), 'c');
    }
}
