import java.util.List;

/** Each sentence of the document that names a boundary case, in the document's order, from both sides of the boundary. */
public final class MacroReaderBoundaries extends Checks {
    private static final String[] WORDS = {"if", "else", "endif", "rept", "endr", "macro", "endm"};
    private static final String HEADS = "macro e\nendm\nmacro one\nx\nendm\n";

    public static void main(String[] args) {
        calls();
        sourceBytes();
        linesOfASource();
        comments();
        blanksAndBytes();
        names();
        largestNumbers();
        digits();
        characters();
        escapes();
        behindNamesAndNumbers();
        texts();
        signs();
        tokensFromTheLeft();
        plainLines();
        partsOfConditions();
        turnsOfRept();
        placesOfMacros();
        longestPlace();
        whatAnAIs();
        missingAndEmpty();
        closingWithoutBeginning();
        howManyMacrosWereRead();
        otherBackslashes();
        anywhereInAMacro();
        innermostMacro();
        endsAsTheyStand();
        wordsBehindBlanks();
        ownSort();
        endsThereToo();
        macroInLinesThatAreRead();
        firstLineThatHasOne();
        outermostLine();
        lineBytesInTheSource();
        lineBytesAsRead();
        lineBytesGoneThrough();
        linesRead();
        linesNotCounted();
        endsWithoutABeginning();
        secondElse();
        twentyIfs();
        twentyRepts();
        twentyMacros();
        twentyOfAllSorts();
        moreAThanP();
        macroWhereItMayNotStand();
        endsInTheSameLines();
        namesTaken();
        behindIfAndRept();
        behindElseAndEndif();
        behindMacro();
        numberOfRept();
        sizeAheadOfAll();
        tokensAheadOfTheRest();
        orderAheadOfTheRest();
        namesAheadOfForm();
        formAheadOfRange();
        notEnded();
        newObject();
        typeN();
        typeBytes();
        typeFull();
        beginTakesTheText();
        nextLengths();
        nextBehindFault();
        octetPlaces();
        octetWithoutALine();
        lineWithoutOne();
        faultKinds();
        depthOfWhatIsRead();
        depthZero();
        finish();
    }

    private static void calls() {
        says("An object is used for at most 512 calls after it has been made");
        MacroReader reader = new MacroReader();
        for (int i = 0; i < 508; i++) {
            same("call " + (i + 1), true, reader.type(0x61206220632064L << 8 | 10, 8));
        }
        same("call 509", 508, reader.begin());
        same("call 510", "7", throwsAtNext(reader));
        same("call 511", 'd', (char) reader.octet(6));
        same("call 512", 1, reader.line());
        reader = begun("rept 4096\na\nendr");
        for (int call = 4; call <= 512; call++) {
            same("call " + call + " of rept", "1", throwsAtNext(reader));
        }
    }

    private static void sourceBytes() {
        says("A SOURCE (65536 bytes at most)");
        String line = ";" + times("x", 1022) + "\n";
        MacroReader reader = typed(new MacroReader(), times(line, 64));
        same("one more", false, reader.type('y', 1));
        same("lines", 64, reader.begin());
        for (int i = 1; i <= 64; i++) {
            same("line " + i, "1023", throwsAtNext(reader));
            same("number of line " + i, i, reader.line());
        }
        same("behind the last", "-1", throwsAtNext(reader));
        same("the most lines", 65536, typed(reader, times("\n", 65536)).begin());
        same("first of the most lines", "0", throwsAtNext(reader));
    }

    private static void linesOfASource() {
        says("A SOURCE has LINES, each ended by the byte 10 or the end");
        same("a", 1, typed(new MacroReader(), "a").begin());
        same("a, 10", 1, typed(new MacroReader(), "a\n").begin());
        same("a, 10, a", 2, typed(new MacroReader(), "a\na").begin());
        reads("a\n\nb", "a @1 #0", " @2 #0", "b @3 #0", "end");
        reads("\n\n", " @1 #0", " @2 #0", "end");
        for (int octet : new int[] {0, 9, 11, 12, 13, 32, 133, 138, 255}) {
            reads(";" + (char) octet + "a", ";" + (char) octet + "a @1 #0", "end");
        }
    }

    private static void comments() {
        says("A ; outside of characters and texts begins a COMMENT, to the end of the line");
        reads("a;?\nb", "a;? @1 #0", "b @2 #0", "end");
        reads(";?\n?", ";? @1 #0", "kind 1 @2");
        reads(";", "; @1 #0", "end");
        reads("';'?", "kind 1 @1");
        reads("';';?", "';';? @1 #0", "end");
        reads("\";\"?", "kind 1 @1");
        reads("\";\";?", "\";\";? @1 #0", "end");
        reads("\";?", "kind 1 @1");
        reads("if 1;0\na;\nendif;1", "a; @2 #1", "end");
        reads(";if 0\n;endif", ";if 0 @1 #0", ";endif @2 #0", "end");
    }

    private static void blanksAndBytes() {
        says("BLANKS are 9 and 32; but for COMMENTS only 9 and 32 .. 126 may stand in a line");
        for (int octet : new int[] {9, 32}) {
            String blank = String.valueOf((char) octet);
            reads("a" + blank + "b" + blank, "a" + blank + "b" + blank + " @1 #0", "end");
            reads(blank + "if" + blank + "0" + blank + "\na\n" + blank + "endif", "end");
        }
        for (int octet : new int[] {0, 8, 11, 12, 13, 31, 127, 128, 160, 255}) {
            String other = String.valueOf((char) octet);
            reads("a" + other + "b", "kind 1 @1");
            reads(other, "kind 1 @1");
            reads("\"" + other + "\"", "kind 1 @1");
            reads("a;" + other, "a;" + other + " @1 #0", "end");
        }
        reads("\" ~\"", "\" ~\" @1 #0", "end");
    }

    private static void names() {
        says("NAMES: letters, digits, _ and . , not beginning with a digit, at most 63 long");
        for (String name : new String[] {"a", "z", "A", "Z", "_", ".", "a0", "a9", "az", "aA", "aZ", "a_", "a.", ".0", "_9"}) {
            reads("macro " + name + "\nx\nendm\n" + name, "x @4 #1", "end");
        }
        for (String name : new String[] {"0a", "9_", "1.", "a@", "a`", "a{", "@a", "`", "{", "a!"}) {
            reads("macro " + name + "\nx\nendm", "kind 1 @1");
        }
        // These are tokens of other sorts directly behind a name.
        reads("macro a/\nendm", "kind 1 @1");
        reads("macro a[\nendm", "kind 1 @1");
        reads("a/b:c[d", "a/b:c[d @1 #0", "end");
        String most = times("n", 63);
        reads(most, most + " @1 #0", "end");
        reads(most + "n", "kind 1 @1");
        reads("a " + most + "," + most, "a " + most + "," + most + " @1 #0", "end");
        reads("a " + most + "9", "kind 1 @1");
        reads("macro " + most + " " + most + "\n\\" + most + "\nendm\n" + most + " x", "x @4 #1", "end");
        reads("macro " + most + ".\nendm", "kind 1 @1");
        reads("macro m " + most + "_\nendm", "kind 1 @1");
        reads("if 0\n" + most + "n\nendif", "end");
    }

    private static void largestNumbers() {
        says("NUMBERS below 2 to the power 64 (as longs, that wrap)");
        String[] most = {"18446744073709551615", "0018446744073709551615", "0xffffffffffffffff", "0x00FFFFFFFFFFFFFFFF",
            "0b" + times("1", 64), "0b00" + times("1", 64)};
        for (String number : most) {
            reads(number, number + " @1 #0", "end");
            reads("if " + number + "\na\nendif", "a @2 #1", "end");
        }
        String[] more = {"18446744073709551616", "18446744073709551617", "18446744073709551620", "18446744073709551700",
            "27670116110564327424", "36893488147419103232", "99999999999999999999", "184467440737095516160",
            "0x10000000000000000", "0xfffffffffffffffff", "0b1" + times("0", 64), "0b" + times("1", 65)};
        for (String number : more) {
            reads(number, "kind 1 @1");
        }
        for (String half : new String[] {"9223372036854775808", "9223372036854775807", "0x8000000000000000", "0b1" + times("0", 63)}) {
            reads("if " + half + "\na\nendif", "a @2 #1", "end");
        }
        reads(times("0", 1000), times("0", 1000) + " @1 #0", "end");
        reads("if " + times("0", 1000) + "\na\nendif", "end");
    }

    private static void digits() {
        says("digits; 0x and hexadecimal digits (of both cases); 0b and binary digits");
        turns("0", 0);
        turns("9", 9);
        turns("007", 7);
        turns("0x9", 9);
        turns("0xa", 10);
        turns("0xA", 10);
        turns("0xf", 15);
        turns("0xF", 15);
        turns("0x1fF", 511);
        turns("0b0", 0);
        turns("0b1", 1);
        turns("0b10", 2);
        for (String bad : new String[] {"0x", "0xg", "0xG", "0x@", "0x`", "0X1", "0b", "0b2", "0b12", "0B1", "0a", "9a", "0xfg", "0o7",
            "1x1", "9x0", "1b1", "2b0", "00x1", "00b1"}) {
            reads("rept " + bad + "\nendr", "kind 1 @1");
        }
    }

    private static void characters() {
        says("a character between two ' (one of 32 .. 126 but ' and \\)");
        for (int octet = 0; octet < 256; octet++) {
            boolean one = octet >= 32 && octet <= 126 && octet != '\'' && octet != '\\';
            if (one) {
                turns("'" + (char) octet + "'", octet);
            } else if (octet != 10) {
                reads("'" + (char) octet + "'", "kind 1 @1");
            }
        }
        for (String bad : new String[] {"'", "''", "'a", "'ab'", "'a''", "'  '"}) {
            reads(bad, "kind 1 @1");
        }
    }

    private static void escapes() {
        says("an ESCAPE: \\n 10, \\t 9, \\0 0, \\ and any other character of 32 .. 126: that one");
        for (int octet = 0; octet < 256; octet++) {
            String escape = "'\\" + (char) octet + "'";
            int worth = octet == 'n' ? 10 : octet == 't' ? 9 : octet == '0' ? 0 : octet;
            if (octet >= 32 && octet <= 126) {
                turns(escape, worth);
                reads("\"\\" + (char) octet + "\"", "\"\\" + (char) octet + "\" @1 #0", "end");
            } else if (octet != 10) {
                reads(escape, "kind 1 @1");
                reads("\"\\" + (char) octet + "\"", "kind 1 @1");
            }
        }
        reads("if '\\0'\na\nelse\nb\nendif", "b @4 #1", "end");
        for (String bad : new String[] {"'\\'", "'\\", "'\\n", "'\\10'", "\"\\\"", "\"\\"}) {
            reads(bad, "kind 1 @1");
        }
    }

    private static void behindNamesAndNumbers() {
        says("No letter, digit, _ or . stands directly behind a NAME or NUMBER");
        for (String number : new String[] {"10", "0x10", "0b10", "'c'", "'\\n'"}) {
            for (String behind : new String[] {"g", "Z", "_", ".", "_1", ".a"}) {
                reads(number + behind, "kind 1 @1");
                reads(number + " " + behind, number + " " + behind + " @1 #0", "end");
            }
            for (String behind : new String[] {"'d'", "\"t\"", ",", "+1", "$a", "<<1", ";a", "\t", "]"}) {
                reads(number + behind, number + behind + " @1 #0", "end");
            }
        }
        reads("'c'1", "kind 1 @1");
        reads("'c'0x1", "kind 1 @1");
        reads("0b10" + "2", "kind 1 @1");
        for (String behind : new String[] {"'d'", "\"t\"", ",", "+1", "$a", "<<1", ";a", "\t", "]"}) {
            reads("x" + behind, "x" + behind + " @1 #0", "end");
        }
        reads(times("x", 63) + "1", "kind 1 @1");
        reads("\"t\"a\"t\"1", "\"t\"a\"t\"1 @1 #0", "end");
        reads("+a-1", "+a-1 @1 #0", "end");
    }

    private static void texts() {
        says("TEXTS: such characters (here ' is one, \" is none) between two \"");
        for (String text : new String[] {"\"\"", "\"'\"", "\"a\"", "\"\\\"\"", "\"\\\\\"", "\"''\"", "\"\"\"\"", "\"a;b\""}) {
            reads(text, text + " @1 #0", "end");
        }
        for (String bad : new String[] {"\"", "\"a", "\"\"\"", "\"a\"b\"", "\"\\\"", "\"a\tb\"", "\"a;"}) {
            reads(bad, "kind 1 @1");
        }
        String most = "\"" + times("t", 1022) + "\"";
        reads(most, most + " @1 #0", "end");
        reads("\"" + times("t", 1023), "kind 1 @1");
    }

    private static void signs() {
        says("SIGNS: , : [ ] ( ) + - * / % & | ^ ~ $ << >>");
        for (int octet = 33; octet <= 126; octet++) {
            String one = String.valueOf((char) octet);
            boolean sign = ",:[]()+-*/%&|^~$".contains(one);
            boolean other = Character.isLetterOrDigit(octet) || "_.;".contains(one);
            if (sign || other) {
                reads(one, one + " @1 #0", "end");
            } else {
                reads(one, "kind 1 @1");
            }
        }
        for (String good : new String[] {"<<", ">>", "<<>>", "<<<<", ">>>>", "<< <<"}) {
            reads(good, good + " @1 #0", "end");
        }
        for (String bad : new String[] {"< <", "<>", "><", "<<<", ">>>", "<<>", "<;<", "<"}) {
            reads(bad, "kind 1 @1");
        }
    }

    private static void tokensFromTheLeft() {
        says("Tokens are taken from the left, each as long as can be; where none can be is a fault");
        reads("macro m\nx\nendm\nm\nmm\nm.\nm0", "x @4 #1", "mm @5 #0", "m. @6 #0", "m0 @7 #0", "end");
        reads("iff 0\nif0\nif 0\nendif", "iff 0 @1 #0", "if0 @2 #0", "end");
        turns("12", 12);
        reads("if 1 2\nendif", "kind 1 @1");
        reads("0x1", "0x1 @1 #0", "end");
        reads("'a'''", "kind 1 @1");
        reads("'''''", "kind 1 @1");
        reads("'a\"'\"", "kind 1 @1");
        reads("\"a'\"'b'", "\"a'\"'b' @1 #0", "end");
        reads("a ?", "kind 1 @1");
        reads("? ;", "kind 1 @1");
        reads("a ;?", "a ;? @1 #0", "end");
    }

    private static void plainLines() {
        says("A line whose first token is none of the WORDS, and no macro's name, is PLAIN");
        reads("", "end");
        reads("\n", " @1 #0", "end");
        reads(" \t ;", " \t ; @1 #0", "end");
        for (String word : WORDS) {
            reads("x " + word, "x " + word + " @1 #0", "end");
            reads(word + "_", word + "_ @1 #0", "end");
            for (int i = 0; i < word.length(); i++) {
                String other = word.substring(0, i) + "q" + word.substring(i + 1);
                reads(other, other + " @1 #0", "end");
                String fewer = word.substring(0, i) + word.substring(i + 1);
                reads(fewer, fewer + " @1 #0", "end");
            }
            reads(word.toUpperCase(), word.toUpperCase() + " @1 #0", "end");
            reads("\"" + word + "\"", "\"" + word + "\" @1 #0", "end");
            reads(": " + word, ": " + word + " @1 #0", "end");
            reads(";" + word, ";" + word + " @1 #0", "end");
        }
        reads("m\nmacro m\nx\nendm\nm\n x m", "m @1 #0", "x @5 #1", " x m @6 #0", "end");
    }

    private static void partsOfConditions() {
        says("just one part of the lines between is read (the first if NUMBER is not 0; else may be missing)");
        for (String no : new String[] {"0", "00", "0x0", "0b0", "'\\0'"}) {
            reads("if " + no + "\na\nelse\nb\nendif\nc", "b @4 #1", "c @6 #0", "end");
            reads("if " + no + "\na\nendif\nc", "c @4 #0", "end");
        }
        for (String yes : new String[] {"1", "2", "0x1", "0b1", "'0'", "0x100000000", "0x8000000000000000", "18446744073709551615"}) {
            reads("if " + yes + "\na\nelse\nb\nendif\nc", "a @2 #1", "c @6 #0", "end");
            reads("if " + yes + "\na\nendif\nc", "a @2 #1", "c @4 #0", "end");
        }
        reads("if 1\nendif\nif 1\nelse\nendif\nif 0\nendif\nif 0\nelse\nendif\nc", "c @11 #0", "end");
    }

    private static void turnsOfRept() {
        says("the lines between are read so many times, 0 .. 4096");
        turns("0", 0);
        turns("1", 1);
        turns("2", 2);
        turns("4095", 4095);
        turns("4096", 4096);
        turns("0x1000", 4096);
        reads("rept 0\na\nendr\nb", "b @4 #0", "end");
        reads("rept 1\na\nendr\nb", "a @1 #1", "b @4 #0", "end");
        reads("rept 2\na\nendr\nb", "a @1 #1", "a @1 #1", "b @4 #0", "end");
        reads("rept 0\nendr\nrept 1\nendr\nrept 4096\nendr\nb", "b @7 #0", "end");
    }

    /** How many turns a rept has: each of them reads an empty macro, and \@ tells how many macros were read. */
    private static void turns(String number, int want) {
        reads("macro e\nendm\nmacro s\n\\@\nendm\nrept " + number + "\ne\nendr\ns", want + " @9 #1", "end");
    }

    private static void placesOfMacros() {
        says("macro N P, P, .. .. endm (NAMES; perhaps no P): N stands for the lines between");
        reads("macro m\nx\nendm\nm", "x @4 #1", "end");
        reads("macro m a\n\\a\nendm\nm 1", "1 @4 #1", "end");
        reads("macro m a, b\n\\b\\a\nendm\nm 1, 2", "21 @4 #1", "end");
        reads("macro m\nendm\nm\nx", "x @4 #0", "end");
        for (String word : WORDS) {
            reads("macro m " + word + "\n\\" + word + "\nendm\nm 1", "1 @4 #1", "end");
        }
        reads("macro m m\n\\m\nendm\nm 1", "1 @4 #1", "end");
    }

    private static void longestPlace() {
        says("\\P replaced by the A of its place (the longest P that fits, of equal ones the first");
        reads("macro m a, ab\n;\\a,\\ab,\\abc,\\ac\nendm\nm 1, 2", ";1,2,2c,1c @4 #1", "end");
        reads("macro m ab, a\n;\\a,\\ab,\\abc,\\ac\nendm\nm 2, 1", ";1,2,2c,1c @4 #1", "end");
        reads("macro m ab\n;\\a\nendm\nm 1", ";\\a @4 #1", "end");
        reads("macro m ab\n;\\a\nb\nendm\nm 1", ";\\a @5 #1", "b @5 #1", "end");
        reads("macro m a, a\n\\a\nendm\nm 1, 2", "1 @4 #1", "end");
        reads("macro m a, b, a, b\n\\b\\a\nendm\nm 1, 2, 3, 4", "21 @4 #1", "end");
        reads("macro m a, a\n<<\\a>>\nendm\nm , 2", "<<>> @4 #1", "end");
        String most = times("n", 63);
        reads("macro m n, " + most + "\n\\" + most + "n\n\\" + times("n", 62) + "\nendm\nm x, y", "yn @5 #1", "x" + times("n", 61) + " @5 #1",
                "end");
    }

    private static void whatAnAIs() {
        says("an A is what stands between commas outside of ( ) [ ], characters and texts, without BLANKS at its ends");
        gives("1,2", "1", "2");
        gives("(1,2)", "(1,2)", "");
        gives("(1),2", "(1)", "2");
        gives("[1,2]", "[1,2]", "");
        gives("[1],2", "[1]", "2");
        gives("([1,2],3),4", "([1,2],3)", "4");
        gives("((1),2),3", "((1),2)", "3");
        gives("(1,2", "(1,2", "");
        gives("[1,2", "[1,2", "");
        gives("',',2", "','", "2");
        gives("',' 2", "',' 2", "");
        gives("\",\",2", "\",\"", "2");
        gives("\",\" 2", "\",\" 2", "");
        gives("\"(\",2", "\"(\"", "2");
        gives("'[',2", "'['", "2");
        gives("(\")\",1),2", "(\")\",1)", "2");
        gives(" \t1 \t, \t2 \t", "1", "2");
        gives("1 \t 2,3", "1 \t 2", "3");
        gives("1;,2", "1", "");
        gives("1 ,2 ;3", "1", "2");
    }

    private static void gives(String given, String first, String second) {
        reads("macro m a, b\n<<\\a:\\b>>\nendm\nm " + given, "<<" + first + ":" + second + ">> @4 #1", "end");
    }

    private static void missingAndEmpty() {
        says("nothing if it is missing; no A at all if nothing stands behind N");
        gives("", "", "");
        gives(" \t", "", "");
        gives(";1,2", "", "");
        gives("1", "1", "");
        gives("1,", "1", "");
        gives(",", "", "");
        gives(",2", "", "2");
        gives(" , 2", "", "2");
        reads("macro n\nx\nendm\nn\nn \t\nn ;1", "x @4 #1", "x @5 #1", "x @6 #1", "end");
        reads("macro n\nx\nendm\nn ,", "kind 6 @4");
        reads("macro m a\n[\\a]\nendm\nm", "[] @4 #1", "end");
        reads("macro m a\n[\\a]\nendm\nm ,", "kind 6 @4");
    }

    private static void closingWithoutBeginning() {
        says(") and ] do not count without a beginning");
        gives("),2", ")", "2");
        gives("],2", "]", "2");
        gives(")(1,2)", ")(1,2)", "");
        gives("][1,2]", "][1,2]", "");
        gives("()),2", "())", "2");
        gives("[]],2", "[]]", "2");
        gives("))((1),2)", "))((1),2)", "");
    }

    private static void howManyMacrosWereRead() {
        says("\\@ by how many macros were read ahead of this in the source (in decimal)");
        for (int before : new int[] {0, 1, 9, 10, 11, 99, 100, 101, 999, 1000, 4096}) {
            reads("macro e\nendm\nmacro s\n\\@\nendm\nrept " + before + "\ne\nendr\ns", before + " @9 #1", "end");
        }
        reads("macro e\nendm\nmacro s\n\\@\nendm\nrept 10\nrept 4000\ne\nendr\nendr\ns", "40000 @11 #1", "end");
        reads("macro i\ni\\@\nendm\nmacro o\no\\@\ni\no\\@\nendm\no\no", "o0 @9 #1", "i1 @9 #2", "o0 @9 #1", "o2 @10 #1", "i3 @10 #2",
                "o2 @10 #1", "end");
        // Macros that are told of, gone through or stand behind are not read ahead of this.
        reads("macro s\n\\@\nendm\nmacro t\nendm\nif 0\ns\nendif\nrept 0\ns\nendr\ns\nt", "0 @12 #1", "end");
        MacroReader reader = begun("macro s\n\\@\nendm\ns\ns");
        same("first source", List.of("0 @4 #1", "1 @5 #1", "end"), answers(reader, 4));
        typed(reader, "macro s\n\\@\nendm\ns").begin();
        same("second source", List.of("0 @4 #1", "end"), answers(reader, 4));
    }

    private static void otherBackslashes() {
        says("any other \\ stays");
        reads("macro m a\n;\\\nendm\nm 1", ";\\ @4 #1", "end");
        reads("macro m a\n;\\b\\A\\ a\\1\nendm\nm 1", ";\\b\\A\\ a\\1 @4 #1", "end");
        reads("macro m a\n;\\\\a\\\\@\\\\\nendm\nm 1", ";\\1\\0\\\\ @4 #1", "end");
        reads("macro m a\n\"\\n\"'\\t'\nendm\nm 1", "\"\\n\"'\\t' @4 #1", "end");
        reads("macro m a\n\\b\nendm\nm 1", "kind 1 @4");
        reads("macro m\n;\\a\\@\nendm\nm", ";\\a0 @4 #1", "end");
        reads(";\\a\\@", ";\\a\\@ @1 #0", "end");
        reads("\\@", "kind 1 @1");
    }

    private static void anywhereInAMacro() {
        says("This is done anywhere in the lines of a macro, also in comments and texts");
        reads("macro m a\n\\a\"\\a\"'\\a';\\a\nendm\nm x", "x\"x\"'x';x @4 #1", "end");
        reads("macro m a\n\\@\"\\@\"'\\@';\\@\nendm\nm x", "0\"0\"'0';0 @4 #1", "end");
        reads("macro m a\nr\\a 1\nx\nendr\nendm\nm ept", "x @6 #2", "end");
        reads("macro m a\nif \\a\nx\nelse\ny\nendif\nendm\nm 0\nm 1", "y @8 #2", "x @9 #2", "end");
        reads("macro m a\nrept \\a\nx\\a\nendr\nendm\nm 2", "x2 @6 #2", "x2 @6 #2", "end");
        // What is put in is not looked at again.
        reads("macro m a, b\n;\\a\nendm\nm \"\\b\\a\\@\", 2", ";\"\\b\\a\\@\" @4 #1", "end");
        reads("rept 1\n;\\a\\@\nendr", ";\\a\\@ @1 #1", "end");
    }

    private static void innermostMacro() {
        says("the innermost macro counts");
        reads("macro i a\n[\\a];\\b\nendm\nmacro o a, b\ni \\b\n[\\a];\\b\nendm\no 1, 2", "[2];\\b @8 #2", "[1];2 @8 #1", "end");
        reads("macro i\n;\\a\nendm\nmacro o a\ni\n;\\a\nendm\no 1", ";\\a @8 #2", ";1 @8 #1", "end");
        reads("macro i a\n\\a\nendm\nrept 2\ni 1\nendr", "1 @4 #2", "1 @4 #2", "end");
        reads("macro o a\nrept 2\nif 1\n\\a\nendif\nendr\nendm\no 1", "1 @8 #3", "1 @8 #3", "end");
    }

    private static void endsAsTheyStand() {
        says("To find an end, or else, lines are gone through as they stand in the source (nothing replaced)");
        reads("macro m e\nif 0\n\\e\nx\nendif\nendm\nm endif", "end");
        reads("macro m e\nif 0\n\\e\nx\nendif\nendm\nm else", "end");
        reads("macro m e\nif 0\nx\nendif\\e\ny\nendm\nm z", "y @7 #1", "end");
        reads("macro m e\nif 0\nx\nelse\\e\ny\nendif\nendm\nm z", "y @8 #2", "end");
        reads("macro m e\nrept 2\nx\n\\e\nendr\nendm\nm endr", "x @7 #2", "kind 6 @7");
        reads("macro m e\nrept 2\nx\nendr\\e\nendm\nm z", "x @6 #2", "x @6 #2", "end");
        reads("macro m e\nif 1\nx\n\\e\ny\nendif\nz\nendm\nm else", "x @9 #2", "z @9 #1", "end");
        reads("if 0\n?\n" + times("x", 2000) + "\nendif", "end");
    }

    private static void wordsBehindBlanks() {
        says("just looked at for the WORDS behind BLANKS at their beginning (a NAME there)");
        for (String end : new String[] {"endif", " \t endif", "endif ?", "endif;", "endif:", "endif'", "endif\\", "endif\u0000", "\tendif 1"}) {
            reads("if 0\nx\n" + end + "\ny", "y @4 #0", "end");
        }
        for (String none : new String[] {"endif1", "endif.", "endif_", "endifs", "1endif", "; endif", "x endif", ":endif", "\u000bendif", "ENDIF",
            "endi", "\"endif\"", "\\endif"}) {
            reads("if 0\n" + none + "\nendif\ny", "y @4 #0", "end");
        }
        reads("rept 0\n endr?\nx", "x @3 #0", "end");
        reads("rept 0\nendrs\nendr\nx", "x @4 #0", "end");
        reads("macro m\n endm?\nx", "x @3 #0", "end");
        reads("macro m\nendms\nendm\nx", "x @4 #0", "end");
        reads("if 0\n else?\nx\nendif", "x @3 #1", "end");
        reads("if 0\nelses\nelse\nx\nendif", "x @4 #1", "end");
        reads("if 0\nif?\nendif\nx\nendif\ny", "y @6 #0", "end");
        reads("if 0\nifs\nendif\ny", "y @4 #0", "end");
    }

    private static void ownSort() {
        says("it is the first one at which as many of its own sort as began behind it (if, rept; macro does not count) have ended");
        reads("if 0\nendif\nendif", "kind 6 @3");
        reads("if 0\nif 0\nendif\nendif\nx", "x @5 #0", "end");
        reads("if 0\nif 0\nif 0\nendif\nendif\nif 0\nendif\nendif\nx", "x @9 #0", "end");
        reads("if 0\nif 0\nelse\nendif\nelse\nx\nendif", "x @6 #1", "end");
        reads("if 1\nelse\nif 0\nendif\nx\nendif\ny", "y @7 #0", "end");
        reads("if 1\nelse\nif 0\nelse\nendif\nendif\ny", "y @7 #0", "end");
        reads("if 0\nrept 1\nendif\nx", "x @4 #0", "end");
        reads("if 0\nendr\nendm\nmacro\nendif\nx", "x @6 #0", "end");
        reads("rept 0\nrept 0\nendr\nendr\nx", "x @5 #0", "end");
        reads("rept 0\nif 1\nendr\nx", "x @4 #0", "end");
        reads("rept 1\nrept 1\nendr\nx\nendr\ny", "x @1 #1", "y @6 #0", "end");
        reads("macro m\nmacro n\nendm\nx", "x @4 #0", "end");
        reads("macro m\nmacro n\nendm\nendm", "kind 6 @4");
        reads("macro m\nrept 1\nif 1\nendm\nx", "x @5 #0", "end");
        reads(times("if 0\n", 100) + times("endif\n", 100) + "x", "x @201 #0", "end");
        reads(times("rept 0\n", 100) + times("endr\n", 99) + "x", "kind 6 @200");
    }

    private static void endsThereToo() {
        says("What begins in the lines of a macro or rept ends there, too");
        reads("macro m\nif 1\nx\nendif\nendm\nm", "x @6 #2", "end");
        reads("macro m\nif 1\nx\nendm\nm\nendif", "kind 6 @5");
        reads("macro m\nif 0\nx\nendm\nm\nendif", "kind 6 @5");
        reads("macro m\nif 0\nelse\nendm\nm\nendif", "kind 6 @5");
        reads("macro m\nrept 1\nx\nendr\nendm\nm", "x @6 #2", "end");
        reads("macro m\nrept 1\nx\nendm\nm\nendr", "kind 6 @5");
        reads("rept 1\nif 1\nx\nendif\nendr", "x @1 #2", "end");
        reads("rept 1\nif 1\nx\nendr\nendif", "kind 6 @1");
        reads("rept 0\nif 1\nx\nendr\ny", "y @5 #0", "end");
        reads("macro m\nendif\nendm\nif 1\nx\nm", "x @5 #1", "kind 6 @6");
        reads("if 1\nrept 1\nendif\nendr", "kind 6 @2");
        reads("macro m e\nrept 2\nif 1\nendif\\e\nendr\nendm\nm\nm x", "endifx @8 #3", "kind 6 @8");
    }

    private static void macroInLinesThatAreRead() {
        says("macro does not stand in the lines of a macro or rept that are read");
        reads("rept 1\nmacro m\nendm\nendr", "kind 6 @1");
        reads("rept 0\nmacro m\nendm\nendr\nx", "x @5 #0", "end");
        reads("macro m\nmacro n\nendm\nx\nm", "x @4 #0", "kind 6 @5");
        reads("macro m\nif 0\nmacro n\nendif\nendm\nm\nx", "x @7 #0", "end");
        reads("rept 1\nif 0\nmacro n\nendm\nendif\nx\nendr", "x @1 #1", "end");
        reads("if 1\nmacro m\nx\nendm\nendif\nm", "x @6 #1", "end");
        reads("if 0\nelse\nmacro m\nx\nendm\nendif\nm", "x @7 #1", "end");
    }

    private static void firstLineThatHasOne() {
        says("FAULTS: the first line read that has one is told");
        reads("?\nendif", "kind 1 @1");
        reads("x\nendif\n?", "x @1 #0", "kind 6 @2");
        reads("if 0\n?\nendif\nendr", "kind 6 @4");
        reads("rept 0\n?\nendr\nendif", "kind 6 @4");
        reads("macro m\n?\nendm\nendif\nm", "kind 6 @4");
        reads("macro m\n?\nendm\nm\nendif", "kind 1 @4");
        reads("if 1\n?", "kind 1 @2");
    }

    private static void outermostLine() {
        says("of what a macro or rept reads: its own line in the source, the outermost one's");
        reads("macro m\nx\n?\nendm\n\nm", " @5 #0", "x @6 #1", "kind 1 @6");
        reads("\nrept 2\nx\n?\nendr", " @1 #0", "x @2 #1", "kind 1 @2");
        reads("macro i\ny\n?\nendm\nmacro o\nx\ni\nendm\no", "x @9 #1", "y @9 #2", "kind 1 @9");
        reads("macro i\ny\n?\nendm\nx\nrept 2\nz\ni\nendr", "x @5 #0", "z @6 #1", "y @6 #2", "kind 1 @6");
        reads("macro o\nrept 1\ny\n?\nendr\nendm\nx\no", "x @7 #0", "y @8 #2", "kind 1 @8");
        reads("rept 1\nrept 1\nx\nendif\nendr\nendr", "x @1 #2", "kind 6 @1");
        reads("if 1\nx\n?\nendif", "x @2 #1", "kind 1 @3");
        reads("macro m\nendm\nm\nrept 1\nx\nendr\n?", "x @4 #1", "kind 1 @7");
    }

    private static void lineBytesInTheSource() {
        says("5 a line of more than 1024 bytes (in the source");
        String most = ";" + times("x", 1023);
        reads(most, most + " @1 #0", "end");
        reads(most + "\n", most + " @1 #0", "end");
        reads(most + "x", "kind 5 @1");
        reads(most + "x\n", "kind 5 @1");
        reads(times(" ", 1024), times(" ", 1024) + " @1 #0", "end");
        reads(times(" ", 1025), "kind 5 @1");
        reads(times("a ", 512), times("a ", 512) + " @1 #0", "end");
        reads("if 1" + times(" ", 1020) + "\nendif" + times(" ", 1019), "end");
        reads("if 1" + times(" ", 1021) + "\nendif", "kind 5 @1");
        reads("if 1\nendif" + times(" ", 1020), "kind 5 @2");
        reads("rept 1" + times(" ", 1018) + "\nendr", "end");
        reads("rept 1" + times(" ", 1019) + "\nendr", "kind 5 @1");
        reads("macro m" + times(" ", 1017) + "\nendm\nm" + times(" ", 1023), "end");
        reads("macro m" + times(" ", 1018) + "\nendm", "kind 5 @1");
        reads("macro m\nendm\nm" + times(" ", 1024), "kind 5 @3");
        // Too long in the source, though as read it would be short.
        reads("macro m abc\n" + times("\\abc", 256) + "\nendm\nm", " @4 #1", "end");
        reads("macro m abc\n" + times("\\abc", 256) + " \nendm\nm", "kind 5 @4");
    }

    private static void lineBytesAsRead() {
        says("5 a line of more than 1024 bytes (.. or as read)");
        String macro = "macro m a\n;" + times("x", 1000) + "\\a\nendm\n";
        reads(macro + "m " + times("y", 23), ";" + times("x", 1000) + times("y", 23) + " @4 #1", "end");
        reads(macro + "m " + times("y", 24), "kind 5 @4");
        String behind = "macro m a\n;\\a" + times("x", 1000) + "\nendm\n";
        reads(behind + "m " + times("y", 23), ";" + times("y", 23) + times("x", 1000) + " @4 #1", "end");
        reads(behind + "m " + times("y", 24), "kind 5 @4");
        // The number of \@ is longer than \@ itself from 100 on.
        String serial = "macro e\nendm\nmacro m\n;" + times("x", 1021) + "\\@\nendm\n";
        reads(serial + "rept 99\ne\nendr\nm", ";" + times("x", 1021) + "99 @9 #1", "end");
        reads(serial + "rept 100\ne\nendr\nm", "kind 5 @9");
        reads("macro m a\n\\a \\a\nendm\nm \"" + times("y", 509) + "\"", "\"" + times("y", 509) + "\" \"" + times("y", 509) + "\" @4 #1",
                "end");
        reads("macro m a\n\\a \\a\nendm\nm \"" + times("y", 510) + "\"", "kind 5 @4");
        reads("macro m a\n;\\a\\a\nendm\nm \"" + times("y", 510) + "\"", "kind 5 @4");
        // The last byte is a \ that stays.
        reads("macro m a\n;\\a\\\nendm\nm \"" + times("y", 1020) + "\"", ";\"" + times("y", 1020) + "\"\\ @4 #1", "end");
        reads("macro m a\n;\\a\\\nendm\nm\"" + times("y", 1021) + "\"", "kind 5 @4");
    }

    private static void lineBytesGoneThrough() {
        says("lines that are gone through are not read, so none is too long");
        String more = times("x", 1025);
        reads("if 0\n" + more + "\nendif\na", "a @4 #0", "end");
        reads("if 1\n" + more + "\nendif\na", "kind 5 @2");
        reads("if 0\nendif " + more + "\na", "a @3 #0", "end");
        reads("if 0\nelse " + more + "\na\nendif", "a @3 #1", "end");
        reads("rept 0\n" + more + "\nendr\na", "a @4 #0", "end");
        reads("rept 1\n" + more + "\nendr\na", "kind 5 @1");
        reads("rept 1\na\nendr " + more, "a @1 #1", "end");
        reads("macro m\n" + more + "\nendm " + more + "\na", "a @4 #0", "end");
        reads("macro m\n" + more + "\nendm\na\nm", "a @4 #0", "kind 5 @5");
    }

    /** A source of 34 - left lines that reads all but so many (14 at most) of the 65536 lines that may be read. */
    private static String allBut(int left) {
        return "macro e\nendm\nrept 4095\n" + times("e\n", 16) + "endr\n" + times("e\n", 14 - left);
    }

    /** The end reads so many lines: there is room for them, and not for one fewer, told at a line of this end. */
    private static void counts(int lines, int told, String end) {
        List<String> room = answers(begun(allBut(lines) + end), 30);
        same("room for " + lines + ": " + end, "end", room.get(room.size() - 1));
        List<String> full = answers(begun(allBut(lines - 1) + end), 30);
        same("no room for " + lines + ": " + end, "kind 5 @" + (35 - lines + told), full.get(full.size() - 1));
    }

    private static void linesRead() {
        says("5 .. more than 65536 lines read");
        reads(allBut(0), "end");
        reads(allBut(0) + "\n", "kind 5 @35");
        reads(allBut(1) + "\n", " @34 #0", "end");
        counts(1, 1, "x");
        counts(1, 1, ";");
        counts(1, 1, "\n");
        counts(2, 2, "x\ny");
        counts(2, 2, "if 1\nendif");
        counts(1, 1, "e");
        counts(4, 1, "rept 3\nx\nendr");
        counts(9, 1, "rept 2\nrept 3\nx\nendr\nendr");
        counts(4, 5, "macro m\nx\ny\nendm\nm");
        counts(7, 8, "macro i\nx\nendm\nmacro o\ni\ni\nendm\no");
        reads(allBut(0) + "?", "kind 5 @35");
        reads(allBut(1) + "?", "kind 1 @34");
        reads(allBut(0) + "endif", "kind 5 @35");
        reads(allBut(1) + "endif", "kind 6 @34");
        reads(allBut(1) + "if 1", "kind 6 @34");
        MacroReader reader = begun(allBut(0) + "x");
        same("full", List.of("kind 5 @35"), answers(reader, 2));
        typed(reader, allBut(0)).begin();
        same("counted anew", List.of("end"), answers(reader, 2));
    }

    private static void linesNotCounted() {
        says("(not those that are gone through, nor endr, endm, and what a condition that is not so goes on behind)");
        counts(1, 1, "if 0\nx\ny\nendif");
        counts(1, 1, "if 0\nif 0\nelse\nendif\nendif");
        counts(2, 4, "if 0\nx\nelse\nendif");
        counts(3, 5, "if 0\nx\nelse\ny\nendif");
        counts(2, 2, "if 1\nelse\nx\ny\nendif");
        counts(3, 3, "if 1\nx\nelse\ny\nendif");
        counts(1, 1, "rept 0\nx\ny\nendr");
        counts(1, 1, "rept 4096\nendr");
        counts(2, 1, "rept 1\nx\nendr");
        counts(1, 1, "macro m\nendm");
        counts(1, 1, "macro m\nx\ny\nendm");
        counts(2, 3, "macro m\nendm\nm");
        counts(4, 3, "macro m\nendm\nrept 2\nm\nendr");
        counts(3, 1, "rept 2\nif 0\nendif\nendr");
    }

    private static void endsWithoutABeginning() {
        says("6 an end or else without a beginning");
        for (String word : new String[] {"else", "endif", "endr", "endm"}) {
            reads(word, "kind 6 @1");
            reads("x\n \t" + word + " ;c", "x @1 #0", "kind 6 @2");
        }
        reads("if 1\nendif\nendif", "kind 6 @3");
        reads("if 1\nendif\nelse", "kind 6 @3");
        reads("if 0\nendif\nendif", "kind 6 @3");
        reads("if 1\nelse\nendif\nendif", "kind 6 @4");
        reads("rept 1\nendr\nendr", "kind 6 @3");
        reads("rept 0\nendr\nendr", "kind 6 @3");
        reads("macro m\nendm\nendm", "kind 6 @3");
        reads("if 1\nendr\nendif", "kind 6 @2");
        reads("if 1\nendm\nendif", "kind 6 @2");
        reads("rept 1\nendif\nendr", "kind 6 @1");
        reads("rept 1\nendm\nendr", "kind 6 @1");
        reads("macro m\nendr\nendm\nm", "kind 6 @4");
        reads("macro m\nelse\nendm\nif 1\nm\nendif", "kind 6 @5");
    }

    private static void secondElse() {
        says("6 .. a second else that is read");
        reads("if 0\nelse\na\nelse\nendif", "a @3 #1", "kind 6 @4");
        reads("if 0\nelse\na\nendif", "a @3 #1", "end");
        reads("if 1\na\nelse\nelse\nendif\nb", "a @2 #1", "b @6 #0", "end");
        reads("if 0\nelse\nif 0\nelse\nendif\nendif\na", "a @7 #0", "end");
        reads("if 0\nelse\nif 0\nelse\nelse\nendif\nendif", "kind 6 @5");
        reads("if 0\nelse\nif 1\nelse\nelse\nendif\na\nendif", "a @7 #1", "end");
    }

    /** Each sort is opened where 19 of a sort are being read, and refused where 20 are, told at a line. */
    private static void opensOneMore(String opening, String closing, int told) {
        String[] more = {"if 1\nx\nendif", "if 0\nelse\nx\nendif", "if 0\nendif\nx", "rept 1\nx\nendr", "rept 0\nendr\nx", "e\nx", "one"};
        for (String inner : more) {
            List<String> got = answers(begun(HEADS + times(opening, 19) + inner + "\n" + times(closing, 19)), 3);
            same("one in 19 of " + opening + inner, "end", got.get(got.size() - 1));
            same("lines in 19 of " + opening + inner, 2, got.size());
            got = answers(begun(HEADS + times(opening, 20) + inner + "\n" + times(closing, 20)), 3);
            same("one in 20 of " + opening + inner, "kind 6 @" + told, got.get(0));
        }
    }

    private static void twentyIfs() {
        says("6 .. if, rept or N of a macro where 20 of these are being read already: 20 of if");
        opensOneMore("if 1\n", "endif\n", 26);
        opensOneMore("if 0\nelse\n", "endif\n", 46);
        reads(times("if 1\n", 20) + "x\n" + times("endif\n", 20) + "y", "x @21 #20", "y @42 #0", "end");
        reads(times("if 1\n", 21) + times("endif\n", 21), "kind 6 @21");
        reads(times("if 1\n", 19) + times("if 1\nx\nendif\n", 3) + times("endif\n", 19), "x @21 #20", "x @24 #20", "x @27 #20", "end");
        reads(times("if 1\n", 20) + "else\n" + times("endif\n", 20), "end");
        reads("if 0\n" + times("if 1\n", 30) + times("endif\n", 31) + "x", "x @63 #0", "end");
        reads(times("if 1\n", 20) + "macro m\ny\nendm\n" + times("endif\n", 20) + "m", "y @44 #1", "end");
        reads(times("if 1\nendif\n", 30) + "x", "x @61 #0", "end");
    }

    private static void twentyRepts() {
        says("6 .. if, rept or N of a macro where 20 of these are being read already: 20 of rept");
        opensOneMore("rept 1\n", "endr\n", 6);
        reads(times("rept 1\n", 20) + "x\n" + times("endr\n", 20) + "y", "x @1 #20", "y @42 #0", "end");
        reads(times("rept 1\n", 21) + times("endr\n", 21), "kind 6 @1");
        reads(times("rept 1\nendr\n", 30) + "x", "x @61 #0", "end");
        reads("rept 0\n" + times("rept 1\n", 30) + times("endr\n", 31) + "x", "x @63 #0", "end");
    }

    private static void twentyMacros() {
        says("6 .. if, rept or N of a macro where 20 of these are being read already: 20 macros");
        // Each macro reads the next one, and the last of them the line that is given.
        StringBuilder chain = new StringBuilder("macro e\nendm\nmacro m0 x\n\\x\nendm\n");
        for (int i = 1; i <= 20; i++) {
            chain.append("macro m").append(i).append(" x\nm").append(i - 1).append(" \\x\nendm\n");
        }
        int line = 5 + 3 * 20 + 1;
        reads(chain + "m19 x", "x @" + line + " #20", "end");
        reads(chain + "m20 x", "kind 6 @" + line);
        reads(chain + "m18 e\nm19 e", "kind 6 @" + (line + 1));
        reads(chain + "if 1\nm18 x\nm19 x\nendif", "x @" + (line + 1) + " #20", "kind 6 @" + (line + 2));
        reads(chain + "rept 1\nm18 x\nm19 x\nendr", "x @" + line + " #20", "kind 6 @" + line);
        reads("macro m\nm\nendm\nm", "kind 6 @4");
    }

    private static void twentyOfAllSorts() {
        says("6 .. if, rept or N of a macro where 20 of these are being read already: of all sorts");
        String macro = "macro m\nif 1\nrept 1\nif 0\nelse\nx\nendif\nendr\nendif\nendm\n";
        reads(macro + times("if 1\n", 16) + "m\n" + times("endif\n", 16), "x @27 #20", "end");
        reads(macro + times("if 1\n", 17) + "m\n" + times("endif\n", 17), "kind 6 @28");
        reads(macro + times("rept 1\n", 16) + "m\n" + times("endr\n", 16), "x @11 #20", "end");
        reads(macro + times("rept 1\n", 17) + "m\n" + times("endr\n", 17), "kind 6 @11");
    }

    private static void moreAThanP() {
        says("6 .. more A than P");
        String[] places = {"", "a", "a, b", "a, b, c", "a, a, a, a"};
        String[] given = {"", "1", "1, 2", "1, 2, 3", "1, 2, 3, 4", "1, 2, 3, 4, 5"};
        for (int p = 0; p < places.length; p++) {
            for (int a = 0; a < given.length; a++) {
                reads("macro m " + places[p] + "\nx\nendm\nm " + given[a], a <= p ? new String[] {"x @4 #1", "end"} : new String[] {"kind 6 @4"});
            }
        }
        reads("macro m a\nx\nendm\nm (1, 2)\nm (1), 2", "x @4 #1", "kind 6 @5");
        reads("macro m a, b\nx\nendm\nm ,\nm ,,", "x @4 #1", "kind 6 @5");
        // As many as a line has room for: 508 names and 508 numbers.
        String most = "p" + times(",p", 507);
        String numbers = "1" + times(",2", 507);
        reads("macro m " + most + "\n\\p\nendm\nm " + numbers + "\nm " + numbers + ",", "1 @4 #1", "kind 6 @5");
    }

    private static void macroWhereItMayNotStand() {
        says("6 .. macro where it may not stand");
        reads("macro m\nendm\nmacro n\nendm\nx", "x @5 #0", "end");
        reads("if 1\nmacro m\nendm\nendif\nx", "x @5 #0", "end");
        reads("rept 1\nmacro m\nendm\nendr", "kind 6 @1");
        reads("rept 1\nif 1\nmacro m\nendm\nendif\nendr", "kind 6 @1");
        reads("if 1\nrept 1\nmacro m\nendm\nendr\nendif", "kind 6 @2");
        reads("macro m a\n\\a\nendm\nm macro\nendm", "kind 6 @4");
        reads("macro m a\n\\a\nendm\nm x\nmacro n\nendm", "x @4 #1", "end");
    }

    private static void endsInTheSameLines() {
        says("6 .. an end that is not in the same lines");
        reads("macro m\nx\nif 1\ny\nendm\nm", "x @6 #1", "kind 6 @6");
        reads("macro m\nx\nif 1\ny\nendif\nendm\nm", "x @7 #1", "y @7 #2", "end");
        reads("macro m\nx\nrept 0\ny\nendm\nm", "x @6 #1", "kind 6 @6");
        reads("macro m\nx\nrept 0\ny\nendr\nendm\nm", "x @7 #1", "end");
        reads("macro m\nif 1\nif 1\nendif\nx\nendm\nm", "kind 6 @7");
        // The rept that is put in has no end of its own: the endr that stands behind is the outer one's.
        reads("macro m a\nrept 1\n\\a\nx\nendr\nendm\nm rept 1", "kind 6 @7");
        reads("macro m a\nrept 1\n\\a\nx\nendr\nendm\nm y", "y @7 #2", "x @7 #2", "end");
        reads("rept 1\nrept 1\nif 1\nendr\nendif\nendr", "kind 6 @1");
        reads("rept 1\nrept 1\nif 1\nendif\nendr\nx\nendr", "x @1 #1", "end");
        reads("macro m a, b\nif 1\nendif\\a\n\\b\nendm\nm x, else", "endifx @6 #2", "kind 6 @6");
        reads("macro m a, b\nif 1\nendif\\a\n\\b\nendif\nendm\nm x, else", "endifx @7 #2", "end");
        reads("macro m a\nif 1\nendif\\a\nendm\nm x", "endifx @5 #2", "kind 6 @5");
        reads("macro m a\nx\nendif\\a\nif 1\n\nendm\nm x", "x @7 #1", "endifx @7 #1", "kind 6 @7");
    }

    private static void namesTaken() {
        says("3 N of macro that is a WORD or a macro already");
        for (String word : WORDS) {
            reads("macro " + word + "\nendm", "kind 3 @1");
            reads("macro " + word + "_\nx\nendm\n" + word + "_", "x @4 #1", "end");
            reads("macro " + word.toUpperCase() + "\nx\nendm\n" + word.toUpperCase(), "x @4 #1", "end");
        }
        reads("macro m\nendm\nmacro m\nendm", "kind 3 @3");
        reads("macro m\nendm\nmacro n\nendm\nmacro m\nendm", "kind 3 @5");
        reads("macro m\nendm\nmacro M\nendm\nmacro mm\nendm\nmacro m1\nendm\nx", "x @9 #0", "end");
        reads("if 0\nmacro m\nendm\nendif\nmacro m\nx\nendm\nm", "x @8 #1", "end");
        String most = times("n", 62);
        reads("macro " + most + "n\nendm\nmacro " + most + "m\nendm\nmacro " + most + "n\nendm", "kind 3 @5");
        MacroReader reader = begun("macro m\nendm\nx");
        same("of an earlier source", List.of("x @3 #0", "end"), answers(reader, 3));
        typed(reader, "macro m\ny\nendm\nm").begin();
        same("of a later source", List.of("y @4 #1", "end"), answers(reader, 3));
    }

    private static void behindIfAndRept() {
        says("1 what stands behind these words is not as said, or something follows: if and rept");
        for (String bad : new String[] {"", " ;1", " x", " \"1\"", " +1", " -1", " (1)", " 1 1", " 1,", " 1 x", " ,", " 1\"\"", "'1'1"}) {
            reads("if" + bad + "\nx\nendif", "kind 1 @1");
            reads("rept" + bad + "\nx\nendr", "kind 1 @1");
        }
        for (String good : new String[] {" 1", "\t1\t", " 1;", " 1 ;x", "'!'", " 0x1 "}) {
            reads("if" + good + "\nx\nendif", "x @2 #1", "end");
            same("rept" + good, List.of("x @1 #1"), answers(begun("rept" + good + "\nx\nendr"), 1));
        }
    }

    private static void behindElseAndEndif() {
        says("1 what stands behind these words is not as said, or something follows: else and endif");
        for (String bad : new String[] {" 1", " x", ":", ",", "\"\"", " if 1", "'1'"}) {
            reads("if 1\nelse" + bad + "\nendif", "kind 1 @2");
            reads("if 1\nendif" + bad, "kind 1 @2");
            reads("if 0\nelse\nendif" + bad, "kind 1 @3");
            // These are gone through.
            reads("if 0\nelse" + bad + "\nx\nendif", "x @3 #1", "end");
            reads("if 0\nendif" + bad + "\nx", "x @3 #0", "end");
            reads("rept 1\nendr" + bad + "\nx", "x @3 #0", "end");
            reads("macro m\nendm" + bad + "\nx", "x @3 #0", "end");
        }
        reads("if 1\nelse;\nendif", "end");
        reads("if 1\nendif \t;1", "end");
    }

    private static void behindMacro() {
        says("1 what stands behind these words is not as said, or something follows: macro");
        for (String bad : new String[] {"", " ;m", " 1", " \"m\"", " ,", " m,", " m ,a", " m a b", " m a,", " m a,,b", " m 1", " m a,1", " m a,b c",
            " m a:b", " m a,b,", " (m)", " m (a)", " m\"\""}) {
            reads("macro" + bad + "\nendm", "kind 1 @1");
        }
        for (String good : new String[] {" m", "\tm\t", " m;", " m a", " m a,b", " m a , b ;,", " m\ta,b,c"}) {
            reads("macro" + good + "\nx\nendm\nm", "x @4 #1", "end");
        }
    }

    private static void numberOfRept() {
        says("7 a NUMBER of rept above 4096 (as a long without a sign)");
        reads("rept 4096\nendr", "end");
        reads("rept 4097\nendr", "kind 7 @1");
        reads("rept 0x1000\nendr", "end");
        reads("rept 0x1001\nendr", "kind 7 @1");
        for (String more : new String[] {"5000", "2147483647", "2147483648", "4294967295", "4294967296", "4294967297", "9223372036854775807",
            "9223372036854775808", "9223372036854775809", "18446744073709551615", "0xfffffffffffff000"}) {
            reads("rept " + more + "\nendr", "kind 7 @1");
            reads("if 0\nrept " + more + "\nendif", "end");
        }
    }

    private static void sizeAheadOfAll() {
        says("in a line they are looked for in this order: 5 ahead of 1, 6, 3, 1 and 7");
        sizeAhead("?", "kind 1 @1");
        sizeAhead("endif ;", "kind 6 @1");
        sizeAhead("macro if ;", "kind 3 @1");
        sizeAhead("macro ;", "kind 1 @1");
        sizeAhead("if ;", "kind 1 @1");
        sizeAhead("rept 4097 ;", "kind 7 @1");
        reads("macro m a\n?;\\a\nendm\nm\"" + times("y", 1020) + "\"", "kind 1 @4");
        reads("macro m a\n?;\\a\nendm\nm\"" + times("y", 1021) + "\"", "kind 5 @4");
        String[] faults = {"?", "endif", "macro if", "if", "rept 4097"};
        int[] kinds = {1, 6, 3, 1, 7};
        for (int i = 0; i < faults.length; i++) {
            reads(allBut(1) + faults[i], "kind " + kinds[i] + " @34");
            reads(allBut(0) + faults[i], "kind 5 @35");
        }
    }

    /** A line with a fault has it up to 1024 bytes, and kind 5 with one more. */
    private static void sizeAhead(String line, String fault) {
        reads(line + times("x", 1024 - line.length()), fault);
        reads(line + times("x", 1025 - line.length()), "kind 5 @1");
    }

    private static void tokensAheadOfTheRest() {
        says("in a line they are looked for in this order: 1 tokens, bytes ahead of 6, 3, 1 and 7");
        String[] lines = {"else", "endif", "endr", "endm", "macro if", "rept 4097", "m 1"};
        int[] kinds = {6, 6, 6, 6, 3, 7, 6};
        for (int i = 0; i < lines.length; i++) {
            reads("macro m\nendm\n" + lines[i], "kind " + kinds[i] + " @3");
            reads("macro m\nendm\n" + lines[i] + " ?", "kind 1 @3");
            reads("macro m\nendm\n" + lines[i] + "\u007f", "kind 1 @3");
            reads("macro m\nendm\n" + lines[i] + ";\u007f?", "kind " + kinds[i] + " @3");
        }
        reads(times("if 1\n", 20) + "if 1", "kind 6 @21");
        reads(times("if 1\n", 20) + "if 1?", "kind 1 @21");
        reads("rept 1\nmacro m\nendr", "kind 6 @1");
        reads("rept 1\nmacro m?\nendr", "kind 1 @1");
        reads("macro m\nif 1\nendm\nm", "kind 6 @4");
        reads("macro m\nif 1?\nendm\nm", "kind 1 @4");
    }

    private static void orderAheadOfTheRest() {
        says("in a line they are looked for in this order: 6 ahead of 3, 1 and 7");
        reads("rept 1\nmacro if\nendr", "kind 6 @1");
        reads("macro if", "kind 3 @1");
        reads("rept 1\nmacro 1\nendr", "kind 6 @1");
        reads("macro 1", "kind 1 @1");
        reads("endif 1", "kind 6 @1");
        reads("if 1\nendif 1", "kind 1 @2");
        reads("else 1", "kind 6 @1");
        reads("if 1\nelse 1\nendif", "kind 1 @2");
        reads("if 0\nelse\nelse 1\nendif", "kind 6 @3");
        reads(times("if 1\n", 20) + "if x", "kind 6 @21");
        reads(times("if 1\n", 19) + "if x", "kind 1 @20");
        reads(times("if 1\n", 20) + "rept x", "kind 6 @21");
        reads(times("if 1\n", 19) + "rept x", "kind 1 @20");
        reads(times("if 1\n", 20) + "rept 4097", "kind 6 @21");
        reads(times("if 1\n", 19) + "rept 4097", "kind 7 @20");
        reads("macro m\nif x\nendm\nm", "kind 6 @4");
        reads("macro m\nif x\nendif\nendm\nm", "kind 1 @5");
        reads("macro m\nrept 4097\nendm\nm", "kind 6 @4");
        reads("macro m\nrept 4097\nendr\nendm\nm", "kind 7 @5");
        reads("macro m a, b\nif 1\nendif\\a\n\\b\nendm\nm x, else 1", "endifx @6 #2", "kind 6 @6");
        reads("macro m a, b\nif 1\nendif\\a\n\\b\nendif\nendm\nm x, else 1", "endifx @7 #2", "kind 1 @7");
    }

    private static void namesAheadOfForm() {
        says("in a line they are looked for in this order: 3 ahead of 1");
        for (String bad : new String[] {" 1", ",", " a,", " a b"}) {
            reads("macro if" + bad, "kind 3 @1");
            reads("macro m\nendm\nmacro m" + bad, "kind 3 @3");
            reads("macro m\nendm\nmacro n" + bad, "kind 1 @3");
        }
        reads("macro 1 if", "kind 1 @1");
    }

    private static void formAheadOfRange() {
        says("in a line they are looked for in this order: 1 ahead of 7");
        reads("rept 4097 1\nendr", "kind 1 @1");
        reads("rept 4097,\nendr", "kind 1 @1");
        reads("rept 4097\nendr", "kind 7 @1");
    }

    private static void notEnded() {
        says("If there is none: 6 at the last line, if something is not ended");
        for (String open : new String[] {"if 1", "if 0", "rept 0", "rept 1", "macro m", "if 0\nelse", "if 1\nelse"}) {
            int lines = open.contains("\n") ? 2 : 1;
            reads(open, "kind 6 @" + lines);
            reads(open + "\n", "kind 6 @" + lines);
            reads(open + "\n\n", open.equals("if 1") || open.equals("if 0\nelse") ? new String[] {" @" + (lines + 1) + " #1", "kind 6 @" + (lines + 1)}
                    : new String[] {"kind 6 @" + (lines + 1)});
        }
        reads("if 1\nx\nendif", "x @2 #1", "end");
        reads("if 1\nif 1\nx\nendif", "x @3 #2", "kind 6 @4");
        reads("if 1\nx\n?", "x @2 #1", "kind 1 @3");
        reads("rept 4097\n\n", "kind 7 @1");
        reads("rept 4096\n\n", "kind 6 @2");
        reads("if x\n\n", "kind 1 @1");
        reads("macro if\n\n", "kind 3 @1");
        reads("macro m 1\n\n", "kind 1 @1");
        reads("if 1\nelse 1\n\n", "kind 1 @2");
        reads("if 1\nrept 1\nx\nendr\n\n", "x @2 #2", " @5 #1", "kind 6 @5");
        reads("rept 2\n?\n", "kind 6 @2");
        reads("if 0\n?\n", "kind 6 @2");
        reads("macro m\n?\n", "kind 6 @2");
    }

    private static void newObject() {
        says("Promise 1: MacroReader(): No source");
        MacroReader reader = new MacroReader();
        same("state", "-1 0 0 0", state(reader));
        same("next", "-1", throwsAtNext(reader));
        same("state behind next", "-1 0 0 0", state(reader));
        same("begin", 0, reader.begin());
        same("next behind begin", "-1", throwsAtNext(reader));
        same("state behind begin", "-1 0 0 0", state(reader));
        reader = typed(new MacroReader(), "a");
        same("next of a text", "-1", throwsAtNext(reader));
        same("begin of a text", 1, reader.begin());
        same("next of a source", "1", throwsAtNext(reader));
    }

    private static void typeN() {
        says("Promise 2: false if n is not 1 .. 8");
        MacroReader reader = new MacroReader();
        for (int n : new int[] {0, -1, -8, 9, 10, 16, 256, 257, Integer.MAX_VALUE, Integer.MIN_VALUE, Integer.MIN_VALUE + 1}) {
            same("n " + n, false, reader.type(0x6161616161616161L, n));
        }
        same("nothing was appended", 0, reader.begin());
        for (int n = 1; n <= 8; n++) {
            same("n " + n, true, reader.type(0x6161616161616161L, n));
        }
        reader.begin();
        same("all was appended", "36", throwsAtNext(reader));
    }

    private static void typeBytes() {
        says("Promise 2: The n lowest bytes of word, the highest of them first, are appended to the text");
        for (int n = 1; n <= 8; n++) {
            MacroReader reader = new MacroReader();
            reader.type(0x6162636465666768L, n);
            reader.begin();
            same("n " + n, List.of("abcdefgh".substring(8 - n) + " @1 #0", "end"), answers(reader, 3));
        }
        MacroReader reader = new MacroReader();
        reader.type(';', 1);
        reader.type(-1L, 8);
        reader.type(Long.MIN_VALUE, 8);
        reader.type(-2L, 1);
        reader.begin();
        same("high bytes", List.of(";" + times("\u00ff", 8) + "\u0080" + times("\u0000", 7) + "\u00fe @1 #0", "end"), answers(reader, 3));
    }

    private static void typeFull() {
        says("Promise 2: false if .. it would have more than 65536");
        String full = times(";" + times("x", 1022) + "\n", 64);
        for (int n = 1; n <= 8; n++) {
            MacroReader reader = typed(new MacroReader(), full.substring(n));
            for (int more = n + 1; more <= 9; more++) {
                same(more + " of " + n, false, reader.type(0x0a0a0a0a0a0a0a0aL, more));
            }
            same(n + " of " + n, true, reader.type(0x0a0a0a0a0a0a0a0aL, n));
            same("1 of 0", false, reader.type(10, 1));
            same("8 of 0", false, reader.type(10, 8));
            same("lines", 64 + n, reader.begin());
            same("behind begin", true, reader.type(10, 8));
        }
    }

    private static void beginTakesTheText() {
        says("Promise 3: there is no text and no fault then; the last line may lack the byte 10, if it has another byte");
        String[] sources = {"", "\n", "\n\n", "a", "a\n", "a\nb", "a\nb\n", "a\n\n", "\n ", "\u0000", "\n\u0000"};
        int[] lines = {0, 1, 2, 1, 1, 2, 2, 2, 2, 1, 2};
        MacroReader reader = new MacroReader();
        for (int i = 0; i < sources.length; i++) {
            same("lines of " + sources[i], lines[i], typed(reader, sources[i]).begin());
        }
        same("no text", 0, reader.begin());
        typed(reader, "if 1\na\n?").begin();
        same("plain line", "1", throwsAtNext(reader));
        same("amid", "97 2 0 1", state(reader));
        typed(reader, "b");
        same("type changes nothing", "97 2 0 1", state(reader));
        same("begin amid", 1, reader.begin());
        same("behind begin amid", "-1 0 0 0", state(reader));
        same("from its beginning", List.of("b @1 #0", "end"), answers(reader, 3));
        typed(reader, "?").begin();
        same("fault", List.of("kind 1 @1"), answers(reader, 2));
        same("begin behind a fault", 0, reader.begin());
        same("behind begin behind a fault", "-1 0 0 0", state(reader));
        same("nothing to read", "-1", throwsAtNext(reader));
    }

    private static void nextLengths() {
        says("Promise 4: how many bytes it has (as read; an empty line is plain); -1 if there is none");
        String most = ";" + times("x", 1023);
        MacroReader reader = begun("\na\n \t;\n" + most + "\nmacro m a\n[\\a]\nendm\nm xyz\nm\n");
        for (String length : new String[] {"0", "1", "3", "1024", "5", "2", "-1", "-1"}) {
            same("length", length, throwsAtNext(reader));
        }
        reader = begun("if 0\na\nendif");
        same("no plain line", "-1", throwsAtNext(reader));
    }

    private static void nextBehindFault() {
        says("Promise 4: -1 .. behind a fault. IllegalArgumentException: there is a fault");
        for (String fault : new String[] {"?", "endif", "macro if", "rept 4097", "if 1", "if 0", "rept 1", "macro m", times(" ", 1025)}) {
            MacroReader reader = begun(fault + "\n");
            same(fault, "IllegalArgumentException", throwsAtNext(reader));
            int line = reader.line();
            int kind = reader.fault();
            same(fault + ": next", "-1", throwsAtNext(reader));
            same(fault + ": next again", "-1", throwsAtNext(reader));
            same(fault + ": state", "-1 " + line + " " + kind + " 0", state(reader));
        }
        MacroReader reader = begun("?\na");
        same("fault", "IllegalArgumentException", throwsAtNext(reader));
        same("the line behind it", "-1", throwsAtNext(reader));
        typed(reader, "a").begin();
        same("another source", "1", throwsAtNext(reader));
    }

    private static void octetPlaces() {
        says("Promise 5: Byte i of the latest plain line; -1 if there is none");
        MacroReader reader = begun("ab;\u0000\u007f\u0080\u00ff\n\nc\n;" + times("x", 1022) + "y");
        reader.next();
        int[] octets = {97, 98, 59, 0, 127, 128, 255, -1, -1};
        for (int i = 0; i < octets.length; i++) {
            same("octet " + i, octets[i], reader.octet(i));
        }
        for (int i : new int[] {-1, -2, Integer.MIN_VALUE, 1023, 1024, 65536, Integer.MAX_VALUE}) {
            same("octet " + i, -1, reader.octet(i));
        }
        reader.next();
        same("octet of an empty line", -1, reader.octet(0));
        same("its line", 2, reader.line());
        reader.next();
        same("octet of a short line", 99, reader.octet(0));
        same("octet behind a short line", -1, reader.octet(1));
        reader.next();
        same("octet of a full line", 'y', (char) reader.octet(1023));
        same("octet behind a full line", -1, reader.octet(1024));
    }

    private static void octetWithoutALine() {
        says("Promise 5: none without a line, and behind the end or a fault");
        MacroReader reader = typed(new MacroReader(), "a");
        same("without a source", -1, reader.octet(0));
        reader.begin();
        same("without a line", -1, reader.octet(0));
        reader.next();
        same("of a line", 97, reader.octet(0));
        reader.next();
        same("behind the end", -1, reader.octet(0));
        reader = begun("a\n?");
        reader.next();
        same("ahead of a fault", 97, reader.octet(0));
        same("fault", "IllegalArgumentException", throwsAtNext(reader));
        same("behind a fault", -1, reader.octet(0));
        same("behind a fault and next", "-1", throwsAtNext(reader));
        same("behind both", -1, reader.octet(0));
    }

    private static void lineWithoutOne() {
        says("Promise 6: 0 without one, and behind the end");
        MacroReader reader = typed(new MacroReader(), "\n\nif 0\nendif\na\n");
        same("without a source", 0, reader.line());
        reader.begin();
        same("without a line", 0, reader.line());
        for (int line : new int[] {1, 2, 5, 0, 0}) {
            reader.next();
            same("line", line, reader.line());
        }
        reader = begun("a\n?\nb");
        reader.next();
        same("ahead of a fault", 1, reader.line());
        same("fault", "IllegalArgumentException", throwsAtNext(reader));
        same("of a fault", 2, reader.line());
        reader.next();
        same("behind a fault", 2, reader.line());
        reader.begin();
        same("behind begin", 0, reader.line());
        List<String> last = answers(begun(times("\n", 499) + "a"), 501);
        same("the last line", List.of("a @500 #0", "end"), last.subList(499, 501));
    }

    private static void faultKinds() {
        says("Promise 7: The kind of the fault; 0 for none");
        String[] faults = {"?", "if", "macro if", times(" ", 1025), "endif", "if 1", "rept 4097"};
        int[] kinds = {1, 1, 3, 5, 6, 6, 7};
        MacroReader reader = new MacroReader();
        same("without a source", 0, reader.fault());
        for (int i = 0; i < faults.length; i++) {
            typed(reader, "a\n" + faults[i]).begin();
            same("without a line", 0, reader.fault());
            reader.next();
            same("ahead of the fault", 0, reader.fault());
            same("fault", "IllegalArgumentException", throwsAtNext(reader));
            same("kind of " + faults[i], kinds[i], reader.fault());
            reader.next();
            same("kind again of " + faults[i], kinds[i], reader.fault());
        }
        typed(reader, "a").begin();
        reader.next();
        reader.next();
        same("behind the end", 0, reader.fault());
    }

    private static void depthOfWhatIsRead() {
        says("Promise 8: How many of if, rept and macros are being read");
        reads("a\nif 1\nb\nendif\nc", "a @1 #0", "b @3 #1", "c @5 #0", "end");
        reads("if 0\nelse\nb\nendif\nc", "b @3 #1", "c @5 #0", "end");
        reads("if 1\nb\nelse\nendif\nc", "b @2 #1", "c @5 #0", "end");
        reads("rept 2\nb\nendr\nc", "b @1 #1", "b @1 #1", "c @4 #0", "end");
        reads("macro m\nb\nendm\nm\nc", "b @4 #1", "c @5 #0", "end");
        reads("macro m\nif 1\nrept 1\nb\nendr\nc\nendif\nd\nendm\nif 1\nm\ne\nendif\nf", "b @11 #4", "c @11 #3", "d @11 #2", "e @12 #1", "f @14 #0",
                "end");
        reads(times("if 1\n", 20) + "a\nendif\nb\n" + times("endif\n", 19) + "c", "a @21 #20", "b @23 #19", "c @43 #0", "end");
    }

    private static void depthZero() {
        says("Promise 8: 0 without a source, behind its end and behind a fault");
        MacroReader reader = typed(new MacroReader(), "rept 1\na\nendr");
        same("without a source", 0, reader.depth());
        reader.begin();
        same("ahead of its lines", 0, reader.depth());
        reader.next();
        same("amid", 1, reader.depth());
        reader.next();
        same("behind its end", 0, reader.depth());
        reader = begun("if 1\na\n?\nendif");
        reader.next();
        same("ahead of a fault", 1, reader.depth());
        same("fault", "IllegalArgumentException", throwsAtNext(reader));
        same("behind a fault", 0, reader.depth());
        reader = begun("if 1\na");
        reader.next();
        same("ahead of the last fault", 1, reader.depth());
        same("last fault", "IllegalArgumentException", throwsAtNext(reader));
        same("behind the last fault", 0, reader.depth());
        typed(reader, "if 1\na").begin();
        reader.next();
        reader.begin();
        same("behind begin", 0, reader.depth());
    }
}
