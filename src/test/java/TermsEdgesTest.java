/** The boundaries that the terms ahead of the promises name, a test for each sentence. */
public final class TermsEdgesTest {
    private static final int NONE = -1;

    public static void main(String[] args) throws Exception {
        Checks.runSentences(TermsEdgesTest.class);
        Checks.finish();
    }

    private static String ofByte(int b) {
        return String.valueOf((char) b);
    }

    private static boolean isLetter(int b) {
        return b >= 'a' && b <= 'z' || b >= 'A' && b <= 'Z';
    }

    private static boolean isDigit(int b) {
        return b >= '0' && b <= '9';
    }

    private static void readsAs(String text, String... told) {
        Counted x = Checks.reader(text);
        Checks.due(Checks.shown(text) + " statements", x.count(0), told.length);
        for (int k = 0; k < told.length; k++) {
            Checks.same(Checks.shown(text) + " tell " + k, Checks.told(x, k), told[k]);
        }
    }

    private static void constantIs(String expression, long want) {
        Checks.due(expression, Checks.reader("w " + expression).constant(0), want);
    }

    private static void itemsAre(String expression, String want) {
        Checks.same(expression, Checks.itemsOf(Checks.reader("w " + expression), 0), want);
    }

    // THE TEXT

    static void textOfThreeThousandBytesAndOneMore() {
        Checks.sentence("THE TEXT", "THE TEXT has at most 3000 bytes.");
        Counted x = new Counted();
        Checks.put(x, Checks.many(" ", 2998, "") + "\na");
        Checks.due("3000 bytes", x.end(0), 3000);
        x.feed(0x62626262, 0x62626262, 0x62626262, 0x62626262, 0x62626262);
        Checks.due("one more", x.end(1), NONE);
        Checks.due("twenty more", x.end(20), NONE);
        Checks.same("all 3000 are read", Checks.outcome(x, ""), "read 1");
        Checks.due("the last byte's word", x.statement(0, 4), 2999);
        Checks.same("none but the 3000", Checks.nameOf(x, 0), "a");
        Checks.faultIs(Checks.many(" ", 2999, "") + "$", 1, 2999);
        Checks.faultIs(Checks.many(" ", 2998, "") + "w,", 5, 2999);
        Checks.faultIs("w" + Checks.many(" ", 2998, "") + "-", 5, 3000);
    }

    static void bytesWaitUntilEnd() {
        Checks.sentence("THE TEXT", "Bytes fed wait, twenty at a time, until end() puts so many of them behind the TEXT; read() takes it.");
        Counted x = new Counted();
        x.feed(0x61610A62, 0x620A6363, 0, 0, 0);
        Checks.due("only fed", x.end(0), 0);
        Checks.same("only fed: nothing is read", Checks.outcome(x, ""), "read 0");
        x.feed(0x61610A62, 0x620A6363, 0, 0, 0);
        Checks.due("some of them", x.end(5), 5);
        Checks.same("those are read", Checks.outcome(x, ""), "read 2");
        Checks.same("and no others", Checks.told(x, 1), "bb");
        Checks.due("the TEXT is taken", x.end(0), 0);
    }

    static void linesEndWithTenOrTheText() {
        Checks.sentence("THE TEXT", "LINES end with a byte 10, the last one with the TEXT, too.");
        Checks.isRead("", 0);
        Checks.isRead("\n", 0);
        Checks.isRead("\n\n\n", 0);
        readsAs("a\n\nb", "a", "b");
        readsAs("a\n\nb\n", "a", "b");
        Counted x = Checks.reader("\na\n\n\nb\nc:\n");
        Checks.due("behind an empty line", x.statement(0, 5), 1);
        Checks.due("behind two more", x.statement(1, 5), 4);
        Checks.due("the last but an empty one", x.statement(2, 5), 5);
        Counted y = Checks.reader(Checks.many("\n", 2999, "") + "a");
        Checks.due("line 2999", y.statement(0, 5), 2999);
        Checks.isRead(Checks.many("\n", 3000, ""), 0);
        Checks.faultIs("a\rb", 1, 1);
        Checks.faultIs("a\u000bb", 1, 1);
    }

    static void blanksAreTwoBytes() {
        Checks.sentence("THE TEXT", "BLANKS are 32 and 9;");
        Checks.isRead(" \t", 0);
        for (int b = 0; b < 256; b++) {
            if (b == 32 || b == 9) {
                readsAs(ofByte(b) + "a" + ofByte(b) + "b" + ofByte(b), "a b");
            } else if (b <= 32 && b != 10 || b >= 127) {
                Checks.faultIs("a" + ofByte(b) + "b", 1, 1);
            }
        }
    }

    static void blanksBetweenAnyTwoWords() {
        Checks.sentence("THE TEXT", "they may stand between any two WORDS, and need not where two would not be one.");
        String told = "w 1, %hi(b + 1)(x10), -(2 << ~c), \"s\", 97, 1b";
        readsAs("a:1:w 1,%hi(b+1)(a0),-(2<<~c),\"s\",'a',1b", "a:", "1:", told);
        readsAs("\ta : 1 :\tw\t1 , % hi ( b + 1 ) ( a0 ) , - ( 2 << ~ c ) , \"s\" , 'a' , 1b ", "a:", "1:", told);
        readsAs("w\"s\"", "w \"s\"");
        readsAs("w'a'", "w 97");
        readsAs("w(1)", "w 1");
        readsAs("w-1", "w -1");
        readsAs("w%lo(1)", "w %lo(1)");
        readsAs("w~1", "w ~1");
        readsAs("wa0", "wa0");
        readsAs("w1", "w1");
        readsAs("w.", "w.");
        Checks.faultIs("w 1 b", 5, 4);
        Checks.faultIs("w 1 2", 5, 4);
        Checks.faultIs("w 0 x1", 5, 4);
        Checks.faultIs("w 1< <2", 1, 3);
    }

    static void commentsGoUpToTheLinesEnd() {
        Checks.sentence("THE TEXT", "A COMMENT is # (not within a CHARACTER or STRING) and all up to the line's end.");
        Checks.isRead("#", 0);
        Checks.isRead("##", 0);
        Checks.isRead("# a: $ ' \" \\ \n", 0);
        readsAs("a#b\nc# d", "a", "c");
        readsAs("w 1#,\n2:", "w 1", "2:");
        readsAs("w '#', \"#\", \"a # b\" # '", "w 35, \"#\", \"a # b\"");
        readsAs("w \"\\\"#\"", "w \"\\\"#\"");
        Checks.isRead("#" + Checks.many("x", 2999, ""), 0);
    }

    // WORDS

    static void wordsAsLongAsCanBe() {
        Checks.sentence("WORDS", "WORDS, each as long as can be:");
        Checks.faultIs("w 1<<<2", 1, 5);
        Checks.faultIs("w 1<<<<2", 5, 5);
        itemsAre("0b1", "0:1");
        itemsAre("0x1f", "0:31");
        itemsAre("0xb", "0:11");
        itemsAre("10", "0:10");
        itemsAre("b1b", "1:1");
        Checks.faultIs("w 0b1f", 5, 5);
        Checks.faultIs("w 0x1g", 5, 5);
        Checks.faultIs("w 1a", 5, 3);
    }

    static void namesBeginWith() {
        Checks.sentence("WORDS", "NAMES: a letter, _ or . , then letters, digits, _, . and $, 1 to 16 bytes");
        for (int b = 33; b < 127; b++) {
            boolean begins = isLetter(b) || b == '_' || b == '.';
            boolean goesOn = begins || isDigit(b) || b == '$';
            Checks.same("a name begins with " + (char) b, Checks.outcome(ofByte(b) + "_ 1").equals("read 1"), begins);
            Counted x = new Counted();
            boolean one = Checks.outcome(x, "q" + ofByte(b) + "q").equals("read 1") && x.count(1) == 0 && x.name(0, 2) == 'q';
            Checks.same("a name goes on with " + (char) b, one, goesOn);
        }
        Checks.same("one byte", Checks.nameOf(Checks.reader("_"), 0), "_");
        Checks.same("sixteen bytes", Checks.nameOf(Checks.reader("a234567890123456"), 0), "a234567890123456");
        Checks.faultIs("a2345678901234567", 2, 0);
        Checks.faultIs(Checks.many("a", 3000, ""), 2, 0);
    }

    static void hereIsAloneThePoint() {
        Checks.sentence("WORDS", "(the name . alone is HERE)");
        itemsAre(".", "3");
        itemsAre("..", "1:1");
        itemsAre("._", "1:1");
        itemsAre(".$", "1:1");
        itemsAre(".0", "1:1");
        readsAs("..:", "..:");
        readsAs(".. 1", ".. 1");
        Checks.faultIs(".", 5, 0);
        Checks.faultIs(". :", 5, 0);
    }

    static void numbersBelowTwoToThe32() {
        Checks.sentence("WORDS",
            "NUMBERS: digits 0 .. 9; 0x and digits of base 16 (a .. f, A .. F, too); 0b and digits of base 2; below 2^32.");
        itemsAre("0", "0:0");
        itemsAre("1234567890", "0:1234567890");
        itemsAre("4294967295", "0:-1");
        Checks.faultIs("w 4294967296", 3, 2);
        itemsAre("0x0", "0:0");
        itemsAre("0x1234567", "0:19088743");
        itemsAre("0x89abcdef", "0:-1985229329");
        itemsAre("0x89ABCDEF", "0:-1985229329");
        itemsAre("0xffffffff", "0:-1");
        Checks.faultIs("w 0x100000000", 3, 2);
        itemsAre("0b0", "0:0");
        itemsAre("0b10", "0:2");
        itemsAre("0b" + Checks.many("1", 32, ""), "0:-1");
        Checks.faultIs("w 0b1" + Checks.many("0", 32, ""), 3, 2);
        itemsAre("00000000004294967295", "0:-1");
        itemsAre("0x000000000ffffffff", "0:-1");
        itemsAre("0b" + Checks.many("0", 40, "") + "1", "0:1");
        itemsAre("010", "0:10");
        Checks.faultIs("w 18446744073709551616", 3, 2);
        Checks.faultIs("w 0x10000000000000000", 3, 2);
        Checks.faultIs("w 0b1" + Checks.many("0", 64, ""), 3, 2);
        Checks.faultIs("w 1" + Checks.many("0", 2997, ""), 3, 2);
    }

    static void digitsOfBaseSixteen() {
        Checks.sentence("WORDS", "0x and digits of base 16 (a .. f, A .. F, too)");
        for (int b = 33; b < 127; b++) {
            boolean digit = isDigit(b) || b >= 'a' && b <= 'f' || b >= 'A' && b <= 'F';
            Counted x = new Counted();
            boolean read = Checks.outcome(x, "w 0x" + ofByte(b)).equals("read 1") && x.constant(0) == Character.digit(b, 16);
            Checks.same("0x" + (char) b, read, digit);
        }
        Checks.faultIs("w 0X1", 5, 3);
    }

    static void digitsOfBaseTwo() {
        Checks.sentence("WORDS", "0b and digits of base 2");
        itemsAre("0b0", "0:0");
        itemsAre("0b1", "0:1");
        Checks.faultIs("w 0b2", 5, 3);
        Checks.faultIs("w 0ba", 5, 3);
        Checks.faultIs("w 0b12", 5, 5);
        Checks.faultIs("w 0B1", 5, 3);
    }

    static void localsAndWhatFollows() {
        Checks.sentence("WORDS", "LOCALS: one digit and b or f (back, forth), if no letter, digit, _, . or $ follows,");
        for (int b = 0; b < 256; b++) {
            boolean goesOn = isLetter(b) || isDigit(b) || b == '_' || b == '.' || b == '$';
            // With what goes on, the digit is a NUMBER and all else the NAME that can't follow it.
            String[] outcomes = {Checks.outcome("w 3b" + ofByte(b)), Checks.outcome("w 3f" + ofByte(b))};
            for (String outcome : outcomes) {
                Checks.same("a LOCAL and byte " + b, outcome.equals("fault 5 at 3"), goesOn);
            }
        }
        itemsAre("3b", "2:6");
        itemsAre("3f", "2:7");
        Checks.faultIs("w 33b", 5, 4);
        Checks.faultIs("w 33f", 5, 4);
        Checks.faultIs("w 3a", 5, 3);
        Checks.faultIs("w 3g", 5, 3);
        Checks.faultIs("w 3B", 5, 3);
        Checks.faultIs("w 3F", 5, 3);
        Checks.faultIs("3b:", 5, 0);
    }

    static void localsAndNumbersOfBaseTwo() {
        Checks.sentence("WORDS", "and the two are not the beginning of a NUMBER 0b and digits.");
        itemsAre("0b", "2:0");
        itemsAre("0f", "2:1");
        itemsAre("0b ", "2:0");
        itemsAre("0b+0b1", "2:0 0:1 12");
        itemsAre("0b0", "0:0");
        itemsAre("0b1", "0:1");
        Checks.faultIs("w 1b1", 5, 3);
        Checks.faultIs("w 0b 1", 5, 5);
    }

    static void charactersHaveOneByte() {
        Checks.sentence("WORDS", "CHARACTERS: ' and a byte and '.");
        itemsAre("'a'", "0:97");
        itemsAre("'\\\\'", "0:92");
        for (String bad : new String[] {"''", "'aa'", "'a", "'", "'a\"", "'a '", "'\\n\\n'", "'\\'"}) {
            Checks.faultIs("w " + bad, 4, 2);
        }
    }

    static void stringsHaveAnyNumberOfBytes() {
        Checks.sentence("WORDS", "STRINGS: \" and bytes, any number, and \".");
        Checks.due("none", Checks.reader("w \"\"").operand(0, 6), 0);
        Checks.due("one", Checks.reader("w \"a\"").operand(0, 6), 1);
        Counted x = Checks.reader("w\"" + Checks.many("q", 2996, "") + "z\"");
        Checks.due("as many as a TEXT can have", x.operand(0, 6), 2997);
        Checks.due("the last of them", x.string(0, 2996), 'z');
        Checks.due("behind the last", x.string(0, 2997), NONE);
        Checks.due("two-byte ones", Checks.reader("w \"" + Checks.many("\\0", 1498, "") + "\"").operand(0, 6), 1498);
        Checks.faultIs("w\"" + Checks.many("q", 2998, ""), 4, 1);
    }

    static void bytesOfCharactersAndStrings() {
        Checks.sentence("WORDS", "A byte in these is one of 32 .. 126 but \\ and the sign around it (' or \"),");
        for (int b = 0; b < 256; b++) {
            boolean printed = b >= 32 && b <= 126 && b != '\\';
            String inCharacter = printed && b != '\'' ? "read 1" : "fault 4 at 2";
            Checks.same("byte " + b + " in a CHARACTER", Checks.outcome("w '" + ofByte(b) + "'"), inCharacter);
            // The sign around it ends the STRING, and begins another behind it.
            String inString = b == '"' ? "fault 4 at 4" : printed ? "read 1" : "fault 4 at 2";
            Checks.same("byte " + b + " in a STRING", Checks.outcome("w \"" + ofByte(b) + "\""), inString);
            if (inCharacter.equals("read 1")) {
                constantIs("'" + ofByte(b) + "'", b);
            }
            if (inString.equals("read 1")) {
                Checks.same("byte " + b + " of a STRING", Checks.stringOf(Checks.reader("w \"" + ofByte(b) + "\""), 0), ofByte(b));
            }
        }
    }

    static void bytesBehindABackslash() {
        Checks.sentence("WORDS", "or \\ and one of n (10), t (9), 0 (0), \\, ', \".");
        String signs = "nt0\\'\"";
        String meant = "\n\t\0\\'\"";
        for (int b = 0; b < 256; b++) {
            int i = signs.indexOf((char) b);
            String want = i < 0 ? "fault 4 at 2" : "read 1";
            Checks.same("\\ and byte " + b + " in a CHARACTER", Checks.outcome("w '\\" + ofByte(b) + "'"), want);
            Checks.same("\\ and byte " + b + " in a STRING", Checks.outcome("w \"\\" + ofByte(b) + "\""), want);
            if (i >= 0) {
                constantIs("'\\" + ofByte(b) + "'", meant.charAt(i));
                String got = Checks.stringOf(Checks.reader("w \"\\" + ofByte(b) + "\""), 0);
                Checks.same("\\ and byte " + b + " of a STRING", got, meant.substring(i, i + 1));
            }
        }
        Checks.faultIs("w \"\\", 4, 2);
        Checks.faultIs("w '\\", 4, 2);
    }

    static void signsAreWords() {
        Checks.sentence("WORDS", "SIGNS: , ( ) : + - * / % & | ^ ~ << >>");
        for (String sign : ", ( ) : + - * / % & | ^ ~ << >>".split(" ")) {
            // No sign begins a line, so each is a word that can't stand there, and not a byte that begins none.
            Checks.faultIs(sign, 5, 0);
        }
    }

    static void lessAndMoreByThemselves() {
        Checks.sentence("WORDS", "(a < or > by itself begins no word)");
        Checks.faultIs("w 1 < 2", 1, 4);
        Checks.faultIs("w 1 > 2", 1, 4);
        Checks.faultIs("w 1 <> 2", 1, 4);
        Checks.faultIs("w 1 >< 2", 1, 4);
        Checks.faultIs("<", 1, 0);
        Checks.faultIs(">", 1, 0);
        Checks.faultIs("w 1 <", 1, 4);
        itemsAre("1 << 2", "0:1 0:2 17");
        itemsAre("1 >> 2", "0:1 0:2 18");
    }

    static void registersOfX() {
        Checks.sentence("WORDS", "REGISTERS are the NAMES x0 .. x31 (without needless 0),");
        for (int i = 0; i < 100; i++) {
            Counted x = Checks.reader("w x" + i);
            Checks.due("x" + i + " sort", x.operand(0, 0), i < 32 ? 1 : 0);
            Checks.due("x" + i + " register", x.operand(0, 1), i < 32 ? i : NONE);
            Checks.due("x0" + i, Checks.reader("w x0" + i).operand(0, 0), 0);
        }
        for (String other : new String[] {"x", "X0", "x1a", "x_1", "x.1", "x$", "x310", "x100", "xx1"}) {
            Checks.due(other, Checks.reader("w " + other).operand(0, 0), 0);
        }
    }

    static void registersOfOtherNames() {
        Checks.sentence("WORDS", "0, 1, 2, 3, 4, 5 .. 7 (t0 .. t2), 28 .. 31 (t3 .. t6), 8, 9 (s0, s1), 18 .. 27 (s2 .. s11), 10 .. 17, 8.");
        String[] names = ("zero ra sp gp tp t0 t1 t2 s0 s1 a0 a1 a2 a3 a4 a5 a6 a7 "
            + "s2 s3 s4 s5 s6 s7 s8 s9 s10 s11 t3 t4 t5 t6").split(" ");
        for (int i = 0; i < names.length; i++) {
            Checks.due(names[i], Checks.reader("w " + names[i]).operand(0, 1), i);
        }
        Checks.due("fp", Checks.reader("w fp").operand(0, 1), 8);
        String others = "t7 t8 t9 t10 s12 s13 s19 s20 a8 a9 a10 t00 t01 s00 s01 s010 a00 a07 t a s Zero RA SP Fp "
            + "zer zeroo ra0 spp gpp tpp fpp fp0 r ra. sp$ r1 b0 y1 ft0 fs0 fa0 pc";
        for (String other : others.split(" ")) {
            Checks.due(other, Checks.reader("w " + other).operand(0, 0), 0);
        }
    }

    // LINES

    static void anyNumberOfLabels() {
        Checks.sentence("LINES", "A LINE has any number of LABELS,");
        Checks.isRead("", 0);
        readsAs("w", "w");
        readsAs("a:", "a:");
        readsAs("a:a:1:1:a:w", "a:", "a:", "1:", "1:", "a:", "w");
        Counted x = Checks.reader(Checks.many("a:", 399, "") + "w 1");
        Checks.due("399 labels and a word in one line", x.count(0), 400);
        Checks.due("the word's line", x.statement(399, 5), 0);
    }

    static void labelsOfNames() {
        Checks.sentence("LINES", "each a NAME that is no REGISTER and not HERE, and :,");
        readsAs("x32 :", "x32:");
        readsAs("hi:lo:", "hi:", "lo:");
        Checks.faultIs("x31:", 5, 3);
        Checks.faultIs("a: sp :", 5, 6);
        Checks.faultIs(".:", 5, 0);
        Checks.faultIs("a: .:", 5, 3);
        Checks.faultIs("a::", 5, 2);
        Checks.faultIs(":", 5, 0);
    }

    static void labelsOfDigits() {
        Checks.sentence("LINES", "or one digit (a NUMBER of one byte) and :;");
        for (int digit = 0; digit < 10; digit++) {
            Counted x = Checks.reader(digit + ":");
            Checks.due("a digit's sort", x.statement(0, 0), 1);
            Checks.due("a digit", x.statement(0, 1), digit);
        }
        Checks.faultIs("10:", 5, 0);
        Checks.faultIs("00:", 5, 0);
        Checks.faultIs("0x1:", 5, 0);
        Checks.faultIs("0b1:", 5, 0);
        Checks.faultIs("'1':", 5, 0);
        Checks.faultIs("1", 5, 1);
        Checks.faultIs("1 w", 5, 2);
        Checks.faultIs("1\n:", 5, 1);
        Checks.faultIs("1b:", 5, 0);
    }

    static void theWordOfTheLine() {
        Checks.sentence("LINES", "then perhaps a NAME (any but HERE), the WORD of the line,");
        readsAs("a:", "a:");
        readsAs("a: b", "a:", "b");
        readsAs("x5", "x5");
        readsAs("a: sp sp", "a:", "sp x2");
        Checks.due("a REGISTER's name as a word", Checks.reader("x5").statement(0, 0), 2);
        Checks.faultIs(".", 5, 0);
        Checks.faultIs("a: . 1", 5, 3);
        for (String other : new String[] {"10", "'a'", "\"s\"", "1b", "(", ")", ",", "+", "-", "~", "%", "<<"}) {
            Checks.faultIs(other, 5, 0);
            Checks.faultIs("a: " + other, 5, 3);
        }
    }

    static void operandsWithCommasBetween() {
        Checks.sentence("LINES", "and perhaps OPERANDS with , between.");
        Checks.due("none", Checks.reader("w").statement(0, 3), 0);
        Checks.due("one", Checks.reader("w 1").statement(0, 3), 1);
        Checks.due("two", Checks.reader("w 1,2").statement(0, 3), 2);
        Checks.faultIs("w ,", 5, 2);
        Checks.faultIs("w ,1", 5, 2);
        Checks.faultIs("w 1,", 5, 4);
        Checks.faultIs("w 1,\n2:", 5, 4);
        Checks.faultIs("w 1,,2", 5, 4);
        Checks.faultIs("w 1 2", 5, 4);
        Checks.faultIs("w a0 a1", 5, 5);
        Checks.faultIs("w \"s\" \"s\"", 5, 6);
        Checks.faultIs("w 1:", 5, 3);
    }

    static void statementsInTheirOrder() {
        Checks.sentence("LINES", "STATEMENTS are the labels and the words with their operands, in their order.");
        readsAs("b:a:w a,b\n\n 1:v\n a:", "b:", "a:", "w a, b", "1:", "v", "a:");
        Checks.isRead("\n# none\n", 0);
    }

    // OPERANDS

    static void registersAndStrings() {
        Checks.sentence("OPERANDS", "OPERANDS: a REGISTER; a STRING;");
        Counted x = Checks.reader("w x0, \"\", x31, \"x31\"");
        Checks.due("the first REGISTER", x.operand(0, 0), 1);
        Checks.due("an empty STRING", x.operand(1, 0), 3);
        Checks.due("the last REGISTER", x.operand(2, 0), 1);
        Checks.due("a STRING", x.operand(3, 0), 3);
        Checks.faultIs("w x0 + 1", 5, 5);
        Checks.faultIs("w \"\" + 1", 5, 5);
        Checks.faultIs("w x0\"\"", 5, 4);
    }

    static void expressionsAsOperands() {
        Checks.sentence("OPERANDS", "an EXPRESSION; a MARKED one:");
        for (String one : new String[] {"1", "'a'", "1b", ".", "b", "(1)", "-1", "~1", "x32", "%hi(1)"}) {
            Checks.due(one, Checks.reader("w " + one).operand(0, 0), 0);
        }
        for (String none : new String[] {")", ":", ",", "+", "*", "/", "&", "|", "^", "<<", ">>"}) {
            Checks.faultIs("w a0, " + none + "1", 5, 6);
        }
    }

    static void memoriesWithAndWithoutExpression() {
        Checks.sentence("OPERANDS",
            "a MEMORY: perhaps an EXPRESSION or a MARKED one, then ( a REGISTER ) (without one the EXPRESSION is the number 0);");
        Counted x = Checks.reader("w (a0), 5(a1), %lo(b)(a2), (1+2)(a3), -1(a4)");
        for (int j = 0; j < 5; j++) {
            Checks.due("sort " + j, x.operand(j, 0), 2);
            Checks.due("register " + j, x.operand(j, 1), 10 + j);
        }
        Checks.same("without one", Checks.itemsOf(x, 0), "0:0");
        Checks.due("its CONSTANT", x.constant(0), 0);
        Checks.same("with one", Checks.itemsOf(x, 1), "0:5");
        Checks.due("with a MARKED one", x.operand(2, 2), 2);
        Checks.same("with one in ( )", Checks.itemsOf(x, 3), "0:1 0:2 12");
        Checks.faultIs("w 5()", 5, 4);
        Checks.faultIs("w 5(b)", 5, 4);
        Checks.faultIs("w 5(6)", 5, 4);
        Checks.faultIs("w 5(.)", 5, 4);
        Checks.faultIs("w 5(", 5, 4);
        Checks.faultIs("w 5(a0", 5, 6);
        Checks.faultIs("w 5(a0,", 5, 6);
        Checks.faultIs("w 5(a0)(a0)", 5, 7);
        Checks.faultIs("w 5(a0)+1", 5, 7);
        Checks.faultIs("w a0(a0)", 5, 4);
        Checks.faultIs("w \"s\"(a0)", 5, 5);
    }

    static void markedOnes() {
        Checks.sentence("OPERANDS",
            "a MARKED one: % and one of the NAMES hi, lo, pcrel_hi, pcrel_lo (marks 1 .. 4), ( an EXPRESSION ).");
        Counted x = Checks.reader("w 1, %hi(1), %lo(1), %pcrel_hi(1), %pcrel_lo(1)");
        for (int j = 0; j < 5; j++) {
            Checks.due("mark " + j, x.operand(j, 2), j);
            Checks.due("sort " + j, x.operand(j, 0), 0);
        }
        for (String none : new String[] {"h", "hii", "Hi", "l", "loo", "pcrel", "pcrel_h", "pcrel_hii", "pcrel_l", "pcrel_loo", "_"}) {
            Checks.faultIs("w %" + none + "(1)", 6, 3);
        }
        Checks.faultIs("w %hi", 5, 5);
        Checks.faultIs("w %hi 1", 5, 6);
        Checks.faultIs("w %hi()", 5, 6);
        Checks.faultIs("w %hi(1", 5, 7);
        Checks.faultIs("w %hi(1,2)", 5, 7);
        Checks.faultIs("w %hi(\"s\")", 5, 6);
        Checks.faultIs("w %hi(1)2", 5, 8);
        Checks.faultIs("w %hi(1)+2", 5, 8);
        Checks.faultIs("w %hi(%lo(1))", 5, 6);
        Checks.faultIs("w 1+%hi(1)", 5, 4);
        Checks.faultIs("w (%hi(1))", 5, 3);
    }

    static void parenthesisAndRegisterIsMemory() {
        Checks.sentence("OPERANDS", "An operand that begins with ( and a REGISTER is a MEMORY.");
        Checks.due("(a0)", Checks.reader("w (a0)").operand(0, 0), 2);
        Checks.due("(x32)", Checks.reader("w (x32)").operand(0, 0), 0);
        Checks.faultIs("w (a0+1)", 5, 5);
        Checks.faultIs("w (a0 1)", 5, 6);
        Checks.faultIs("w (a0", 5, 5);
        Checks.faultIs("w (a0(a1))", 5, 5);
        Checks.faultIs("w (a0)*2", 5, 6);
        Checks.faultIs("w ((a0))", 6, 4);
        Checks.faultIs("w %hi((a0))", 6, 7);
    }

    // EXPRESSIONS

    static void whatBindsLeast() {
        Checks.sentence("EXPRESSIONS", "from what binds least, operators of one line from the left: |; ^; &; << and >>; + and -; * , / and %;");
        String[][] lines = {{"|"}, {"^"}, {"&"}, {"<<", ">>"}, {"+", "-"}, {"*", "/", "%"}};
        int[][] sorts = {{21}, {20}, {19}, {17, 18}, {12, 13}, {14, 15, 16}};
        for (int i = 0; i < lines.length; i++) {
            for (int k = 0; k < lines.length; k++) {
                for (int m = 0; m < lines[i].length; m++) {
                    for (int n = 0; n < lines[k].length; n++) {
                        String want = k > i ? "0:1 0:2 0:3 " + sorts[k][n] + " " + sorts[i][m]
                            : "0:1 0:2 " + sorts[i][m] + " 0:3 " + sorts[k][n];
                        itemsAre("1" + lines[i][m] + "2" + lines[k][n] + "3", want);
                    }
                }
            }
        }
    }

    static void signsAheadBindMost() {
        Checks.sentence("EXPRESSIONS", "then - and ~ ahead of one;");
        for (String sign : new String[] {"|", "^", "&", "<<", ">>", "+", "-", "*", "/", "%"}) {
            Counted x = Checks.reader("w -1" + sign + "~2");
            Checks.same("- and " + sign, Checks.itemsOf(x, 0).startsWith("0:1 10 0:2 11 "), true);
        }
        itemsAre("-~-1", "0:1 10 11 10");
        itemsAre("1--1", "0:1 0:1 10 13");
        Checks.faultIs("w -", 5, 3);
        Checks.faultIs("w ~", 5, 3);
        Checks.faultIs("w 1~2", 5, 3);
        Checks.faultIs("w +1", 5, 2);
    }

    static void operandsOfExpressions() {
        Checks.sentence("EXPRESSIONS",
            "a NUMBER, a CHARACTER (its code), a LOCAL, HERE, a NAME that is no REGISTER, ( an EXPRESSION ).");
        itemsAre("7", "0:7");
        itemsAre("'\\0'", "0:0");
        itemsAre("'~'", "0:126");
        itemsAre("7b", "2:14");
        itemsAre(".", "3");
        itemsAre("b", "1:1");
        itemsAre("((7))", "0:7");
        Checks.faultIs("w 1+a0", 6, 4);
        Checks.faultIs("w 1+\"s\"", 5, 4);
        Checks.faultIs("w ()", 5, 3);
        Checks.faultIs("w (1", 5, 4);
        Checks.faultIs("w 1)", 5, 3);
        Checks.faultIs("w (1 2)", 5, 5);
    }

    static void atMostTwentyDeep() {
        Checks.sentence("EXPRESSIONS",
            "What lies in ( ) of an EXPRESSION, or behind - or ~ ahead of it, is one deeper (1 at first), at most 20 deep.");
        String open = Checks.many("(", 19, "");
        String close = Checks.many(")", 19, "");
        for (String one : new String[] {"(", "-", "~"}) {
            String shut = one.equals("(") ? close : "";
            Checks.isRead("w " + Checks.many(one, 19, "") + "1" + shut, 1);
            Checks.faultIs("w " + Checks.many(one, 20, "") + "1" + shut, 7, 22);
        }
        Checks.isRead("w -" + Checks.many("~(", 9, "") + "1" + Checks.many(")", 9, ""), 1);
        Checks.faultIs("w -" + Checks.many("~(", 9, "") + "-1", 7, 22);
        // All that is joined by operators is as deep as they are, and what is closed is behind.
        Checks.isRead("w " + open + "1+2*3" + close + "-" + open + "b" + close, 1);
        Checks.isRead("w -1+-1+-1+-1+-1+-1+-1+-1+-1+-1+-1", 1);
        Checks.faultIs("w 1+" + open + "1+(2)", 7, 26);
        // The ( ) of a mark or a MEMORY are not an EXPRESSION's.
        Checks.isRead("w %lo(" + open + "1" + close + ")(sp)", 1);
        Checks.faultIs("w %lo(" + open + "(1", 7, 26);
        Checks.isRead("w " + open + "1" + close + "(sp)", 1);
        Counted x = Checks.reader("w " + Checks.many("-", 19, "") + "1");
        Checks.same("20 deep told", Checks.told(x, 0), "w " + Checks.many("-", 19, "") + "1");
        Checks.due("20 deep worked out", x.constant(0), -1);
    }

    // ITEMS

    static void itemsInTheOrderOfWorkingOut() {
        Checks.sentence("ITEMS", "operands from the left, an operator behind what it works on:");
        itemsAre("1", "0:1");
        itemsAre("1+2*3-4", "0:1 0:2 0:3 14 12 0:4 13");
        itemsAre("(1+2)*(3-4)", "0:1 0:2 12 0:3 0:4 13 14");
        itemsAre("-(1+~2)", "0:1 0:2 11 12 10");
    }

    static void numbersAsInts() {
        Checks.sentence("ITEMS", "0 a number (its value as an int),");
        itemsAre("2147483647", "0:2147483647");
        itemsAre("2147483648", "0:-2147483648");
        itemsAre("4294967295", "0:-1");
        itemsAre("0", "0:0");
    }

    static void namesByTheirNumbers() {
        Checks.sentence("ITEMS", "1 a name (its number),");
        itemsAre("w", "1:0");
        itemsAre("b+c+b", "1:1 1:2 12 1:1 12");
    }

    static void localsByDigitAndWay() {
        Checks.sentence("ITEMS", "2 a LOCAL (2 * the digit, 1 more for f),");
        for (int digit = 0; digit < 10; digit++) {
            itemsAre(digit + "b", "2:" + 2 * digit);
            itemsAre(digit + "f", "2:" + (2 * digit + 1));
        }
    }

    static void sortsOfOperators() {
        Checks.sentence("ITEMS",
            "3 HERE, 10 - and 11 ~ ahead of one, 12 +, 13 -, 14 *, 15 /, 16 %, 17 <<, 18 >>, 19 &, 20 ^, 21 | (0 as what is told for 3 and these).");
        Counted x = Checks.reader("w .-1");
        Checks.due("HERE", x.item(0, 0), 3);
        Checks.due("HERE's value", x.item(0, 1), 0);
        itemsAre("-5", "0:5 10");
        itemsAre("~5", "0:5 11");
        String[] signs = {"+", "-", "*", "/", "%", "<<", ">>", "&", "^", "|"};
        for (int i = 0; i < signs.length; i++) {
            Counted y = Checks.reader("w 7" + signs[i] + "8");
            Checks.due(signs[i], y.item(2, 0), 12 + i);
            Checks.due(signs[i] + " value", y.item(2, 1), 0);
        }
    }

    // CONSTANT

    static void constantIfAllAreNumbers() {
        Checks.sentence("CONSTANT", "if all its operands are numbers: worked out with ints:");
        constantIs("5", 5);
        constantIs("'a'+1", 98);
        constantIs("6&3", 2);
        constantIs("6^3", 5);
        constantIs("6|3", 7);
        constantIs("~0", -1);
        constantIs("~2147483648", 2147483647);
        constantIs("1+~2", -2);
        constantIs("1+-2", -1);
        constantIs("4294967295", -1);
        constantIs("b", UnitText.NOTHING);
        constantIs("1b", UnitText.NOTHING);
        constantIs(".", UnitText.NOTHING);
        constantIs("0*b", UnitText.NOTHING);
        constantIs("b-b", UnitText.NOTHING);
        constantIs("0&1f", UnitText.NOTHING);
        constantIs("1+(2*(3-.))", UnitText.NOTHING);
        constantIs("-b", UnitText.NOTHING);
    }

    static void sumsAndTheirLikeWrap() {
        Checks.sentence("CONSTANT", "sums, differences, products and - ahead wrap;");
        constantIs("2147483647+1", -2147483648L);
        constantIs("4294967295+4294967295", -2);
        constantIs("-2147483648-1", 2147483647);
        constantIs("0-2147483648", -2147483648L);
        constantIs("65536*65536", 0);
        constantIs("2147483647*2", -2);
        constantIs("46341*46341", -2147479015);
        constantIs("-2147483648", -2147483648L);
        constantIs("--2147483648", -2147483648L);
        constantIs("-4294967295", 1);
    }

    static void quotientsGoTowardsZero() {
        Checks.sentence("CONSTANT", "/ goes towards 0, % has the sign of what is divided");
        constantIs("7/2", 3);
        constantIs("-7/2", -3);
        constantIs("7/-2", -3);
        constantIs("-7/-2", 3);
        constantIs("-1/2", 0);
        constantIs("7%2", 1);
        constantIs("-7%2", -1);
        constantIs("7%-2", 1);
        constantIs("-7%-2", -1);
        constantIs("4294967295/2", 0);
        constantIs("2147483648/2", -1073741824);
        constantIs("4294967295%2", -1);
    }

    static void leastByMinusOne() {
        Checks.sentence("CONSTANT", "(-2^31 / -1 is -2^31, rest 0;");
        constantIs("-2147483648/-1", -2147483648L);
        constantIs("-2147483648%-1", 0);
        constantIs("2147483648/4294967295", -2147483648L);
        constantIs("2147483648%4294967295", 0);
    }

    static void byZeroThereIsNone() {
        Checks.sentence("CONSTANT", "by 0 there is no CONSTANT);");
        constantIs("1/0", UnitText.NOTHING);
        constantIs("1%0", UnitText.NOTHING);
        constantIs("0/0", UnitText.NOTHING);
        constantIs("0%0", UnitText.NOTHING);
        constantIs("2147483648/0", UnitText.NOTHING);
        constantIs("1/(1-1)", UnitText.NOTHING);
        constantIs("1%-0", UnitText.NOTHING);
        constantIs("1/'\\0'", UnitText.NOTHING);
        constantIs("0*(1/0)", UnitText.NOTHING);
        constantIs("1+-(1%0)", UnitText.NOTHING);
        constantIs("1/(0/1)", UnitText.NOTHING);
        constantIs("0/1", 0);
        constantIs("0%1", 0);
    }

    static void shiftsByFiveBits() {
        Checks.sentence("CONSTANT", "<< and >> by the lowest five bits,");
        constantIs("1<<0", 1);
        constantIs("1<<31", -2147483648L);
        constantIs("1<<32", 1);
        constantIs("1<<33", 2);
        constantIs("1<<63", -2147483648L);
        constantIs("1<<64", 1);
        constantIs("1<<-1", -2147483648L);
        constantIs("1<<4294967264", 1);
        constantIs("3<<31", -2147483648L);
        constantIs("8>>0", 8);
        constantIs("8>>31", 0);
        constantIs("8>>32", 8);
        constantIs("8>>33", 4);
        constantIs("-1>>-1", 1);
        constantIs("-1>>4294967264", -1);
    }

    static void shiftsWithZerosAhead() {
        Checks.sentence("CONSTANT", ">> with zeros ahead.");
        constantIs("-1>>1", 2147483647);
        constantIs("-1>>31", 1);
        constantIs("2147483648>>31", 1);
        constantIs("-8>>1", 2147483644);
        constantIs("-1>>32", -1);
        constantIs("-1>>0", -1);
    }

    // NAMES

    static void namesNumberedAsTheyFirstCome() {
        Checks.sentence("NAMES", "NAMES of labels, words and in EXPRESSIONS are numbered from 0 on as they first come");
        Counted x = Checks.reader("b: a c+d*b, c\ne: b e\n1: f %hi(g)(sp), 1b");
        String[] names = {"b", "a", "c", "d", "e", "f", "g"};
        Checks.due("names", x.count(3), names.length);
        for (int k = 0; k < names.length; k++) {
            Checks.same("name " + k, Checks.nameOf(x, k), names[k]);
        }
        Checks.due("a name again as a word", x.statement(3, 1), 0);
        Checks.due("a name again in an EXPRESSION", x.item(x.operand(2, 3), 1), 4);
        Checks.due("names that differ at their ends", Checks.reader("ab: abc: a: A: ab:").count(3), 4);
        Checks.due("no names", Checks.reader("1:").count(3), 0);
    }

    static void namesThatAreNotNumbered() {
        Checks.sentence("NAMES", "(those of REGISTERS as operands, of marks, and HERE are not).");
        Counted x = Checks.reader("w a0, (sp), 1(x1), %hi(1), %pcrel_lo(2)(t0), .");
        Checks.due("only the word", x.count(3), 1);
        Counted y = Checks.reader("w a0, hi, %hi(lo)\na0 a0\nhi: lo");
        Checks.due("where they are words or names", y.count(3), 4);
        Checks.same("hi, in an EXPRESSION", Checks.nameOf(y, 1), "hi");
        Checks.same("lo, in an EXPRESSION", Checks.nameOf(y, 2), "lo");
        Checks.same("a0, a word", Checks.nameOf(y, 3), "a0");
    }

    // A STATEMENT as a TEXT

    static void labelsTold() {
        Checks.sentence("A STATEMENT as a TEXT", "a label: its NAME, or digit, and :;");
        readsAs(" a234567890123456 :", "a234567890123456:");
        readsAs("0 :9:", "0:", "9:");
        readsAs("_:", "_:");
    }

    static void wordsTold() {
        Checks.sentence("A STATEMENT as a TEXT", "a word: its NAME, then, behind a blank, its operands with , and a blank between.");
        readsAs(" w # none", "w");
        readsAs("w\t1", "w 1");
        readsAs("w 1,2 ,3", "w 1, 2, 3");
        readsAs("fp fp", "fp x8");
    }

    static void registersTold() {
        Checks.sentence("A STATEMENT as a TEXT", "A REGISTER: x and its number;");
        readsAs("w zero,t6,x9,x10,s1", "w x0, x31, x9, x10, x9");
    }

    static void stringsTold() {
        Checks.sentence("A STATEMENT as a TEXT", "a STRING: its bytes in \", with \\ ahead of what needs it (\\n, \\t, \\0 for 10, 9, 0; \\\\, \\\");");
        readsAs("w \"\"", "w \"\"");
        readsAs("w \"\\n\\t\\0\\\\\\\"\"", "w \"\\n\\t\\0\\\\\\\"\"");
        readsAs("w \"\\''\"", "w \"''\"");
        for (int b = 32; b < 127; b++) {
            if (b != '"' && b != '\\') {
                readsAs("w \"" + ofByte(b) + "\"", "w \"" + ofByte(b) + "\"");
            }
        }
        String most = Checks.many("\\\"", 90, "");
        readsAs("w \"" + most + "\"", "w \"" + most + "\"");
    }

    static void numbersTold() {
        Checks.sentence("A STATEMENT as a TEXT", "a number in decimal, without a sign;");
        readsAs("w 0,00,9,10,0x63,100", "w 0, 0, 9, 10, 99, 100");
        readsAs("w 2147483647,2147483648,4294967295", "w 2147483647, 2147483648, 4294967295");
        readsAs("w 999999999,1000000000,0b11,' '", "w 999999999, 1000000000, 3, 32");
        readsAs("w '\\0'", "w 0");
    }

    static void namesTold() {
        Checks.sentence("A STATEMENT as a TEXT", "a name, LOCAL, HERE as it is;");
        readsAs("w a234567890123456,0b,0f,9b,9f,.,..", "w a234567890123456, 0b, 0f, 9b, 9f, ., ..");
    }

    static void twoSidedTold() {
        Checks.sentence("A STATEMENT as a TEXT", "a two-sided operator's both sides with a blank, the sign, a blank between;");
        readsAs("w 1+2,1-2,1*2,1/2,1%2", "w 1 + 2, 1 - 2, 1 * 2, 1 / 2, 1 % 2");
        readsAs("w 1<<2,1>>2,1&2,1^2,1|2", "w 1 << 2, 1 >> 2, 1 & 2, 1 ^ 2, 1 | 2");
    }

    static void signsAheadTold() {
        Checks.sentence("A STATEMENT as a TEXT", "- or ~ ahead without a blank;");
        readsAs("w - 1,~ b,- ~ - .,1 - - 2", "w -1, ~b, -~-., 1 - -2");
    }

    static void parenthesesOfWhatBindsLess() {
        Checks.sentence("A STATEMENT as a TEXT", "in ( ) a side that is two-sided and binds less, a right one that binds as much,");
        String[][] lines = {{"|"}, {"^"}, {"&"}, {"<<", ">>"}, {"+", "-"}, {"*", "/", "%"}};
        for (int i = 0; i < lines.length; i++) {
            for (int k = 0; k < lines.length; k++) {
                for (String outer : lines[i]) {
                    for (String inner : lines[k]) {
                        String side = "1 " + inner + " 2";
                        String left = k < i ? "(" + side + ")" : side;
                        String right = k <= i ? "(" + side + ")" : side;
                        readsAs("w (" + side + ")" + outer + "3", "w " + left + " " + outer + " 3");
                        readsAs("w 3" + outer + "(" + side + ")", "w 3 " + outer + " " + right);
                    }
                }
            }
        }
        readsAs("w ((1))+((b)),(-1)*(~2)", "w 1 + b, -1 * ~2");
    }

    static void parenthesesBehindSignsAhead() {
        Checks.sentence("A STATEMENT as a TEXT", "and what is two-sided behind - or ~;");
        for (String sign : new String[] {"|", "^", "&", "<<", ">>", "+", "-", "*", "/", "%"}) {
            readsAs("w -(1" + sign + "2),~(1" + sign + "2)", "w -(1 " + sign + " 2), ~(1 " + sign + " 2)");
        }
        readsAs("w -(1),~(-(b)),-((1b))", "w -1, ~-b, -1b");
    }

    static void markedTold() {
        Checks.sentence("A STATEMENT as a TEXT", "a MARKED one %, the mark, ( , the EXPRESSION, );");
        readsAs("w %hi(1),% lo ( b+1 ),%pcrel_hi(((.))),%pcrel_lo(-(1))",
            "w %hi(1), %lo(b + 1), %pcrel_hi(.), %pcrel_lo(-1)");
    }

    static void memoriesTold() {
        Checks.sentence("A STATEMENT as a TEXT", "a MEMORY: the EXPRESSION or MARKED one, then ( , the REGISTER, ).");
        readsAs("w (sp),0(sp),1+2(sp),(1+2)(sp),(1)(sp)", "w 0(x2), 0(x2), 1 + 2(x2), 1 + 2(x2), 1(x2)");
        readsAs("w %lo(b)(sp),-b(t6)", "w %lo(b)(x2), -b(x31)");
    }

    static void toldReadsAsItDoes() {
        Checks.sentence("What it is", "each statement told back as a text that reads as it does.");
        String open = Checks.many("2-(", 19, "");
        String close = Checks.many(")", 19, "");
        String[] texts = {"_:", "9:", "w", "x31", "w \"\"", "w -" + Checks.many("1", 30, "+"), "w " + open + "1" + close,
            "w " + Checks.many("~", 19, "") + "b", "w %pcrel_lo(" + open + ".-1f" + close + ")(zero)", "w (sp)",
            "w 0xffffffff,0b,'\\'',\"\\0\\'\",1-(2-3)-4,(1|2)&3,-(1*2),~(-1)"};
        for (String text : texts) {
            Counted x = Checks.reader(text);
            String told = Checks.told(x, 0);
            Counted y = Checks.reader(told);
            Checks.same(told + " told again", Checks.told(y, 0), told);
            for (int what = 0; what < 4; what++) {
                Checks.due(told + " statement " + what, y.statement(0, what), x.statement(0, what));
            }
            for (int j = 0; j < x.count(1); j++) {
                Checks.same(told + " items " + j, Checks.itemsOf(y, j), Checks.itemsOf(x, j));
                Checks.same(told + " string " + j, Checks.stringOf(y, j), Checks.stringOf(x, j));
                for (int what = 0; what < 5; what++) {
                    Checks.due(told + " operand " + j + ", " + what, y.operand(j, what), x.operand(j, what));
                }
            }
        }
    }
}
