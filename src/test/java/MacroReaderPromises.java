import java.util.List;

/** The promises of the document, one method for each and for each of the terms that they rest on. */
public final class MacroReaderPromises extends Checks {
    public static void main(String[] args) {
        promise1NewObject();
        promise2Type();
        promise3Begin();
        promise4Next();
        promise5Octet();
        promise6Line();
        promise7Fault();
        promise8Depth();
        goodTokens();
        badTokens();
        bytesAndComments();
        plainLines();
        conditions();
        repetition();
        macroHeadings();
        whatMacrosAreGiven();
        whatIsReplaced();
        howEndsAreFound();
        sameLines();
        limits();
        orderOfFaults();
        manyObjects();
        finish();
    }

    private static void promise1NewObject() {
        MacroReader reader = new MacroReader();
        same("new: state", "-1 0 0 0", state(reader));
        same("new: next", "-1", throwsAtNext(reader));
        same("new: state behind next", "-1 0 0 0", state(reader));
        same("new: octet(-1)", -1, reader.octet(-1));
        same("new: begin", 0, reader.begin());
        same("new: next behind begin", "-1", throwsAtNext(reader));
    }

    private static void promise2Type() {
        MacroReader reader = new MacroReader();
        same("type n 0", false, reader.type(97, 0));
        same("type n 9", false, reader.type(97, 9));
        same("type n -1", false, reader.type(97, -1));
        same("type least n", false, reader.type(97, Integer.MIN_VALUE));
        same("type most n", false, reader.type(97, Integer.MAX_VALUE));
        same("type 1", true, reader.type(0x6162636465666768L, 1));
        same("type 3", true, reader.type(0x6162636465666768L, 3));
        same("type 8", true, reader.type(0x6162636465666768L, 8));
        same("type ;", true, reader.type(';', 1));
        same("type high", true, reader.type(-1L, 8));
        reader.begin();
        same("typed line", List.of("hfghabcdefgh;" + times("\u00ff", 8) + " @1 #0", "end"), answers(reader, 5));
        same("type full", true, fillText(reader, 65536));
        same("type beyond full", false, reader.type(97, 1));
        same("begin full", 1, reader.begin());
        same("type behind begin", true, reader.type(97, 1));
        same("begin short", 1, reader.begin());
        same("short line", List.of("a @1 #0", "end"), answers(reader, 5));
        fillText(reader, 65535);
        same("type 2 of 1", false, reader.type(97, 2));
        same("type 1 of 1", true, reader.type(10, 1));
        same("type 1 of 0", false, reader.type(10, 1));
        same("begin behind refusal", 1, reader.begin());
    }

    private static boolean fillText(MacroReader reader, int bytes) {
        boolean all = true;
        for (int i = 0; i < bytes / 8; i++) {
            all &= reader.type(0x6161616161616161L, 8);
        }
        for (int i = 0; i < bytes % 8; i++) {
            all &= reader.type(97, 1);
        }
        return all;
    }

    private static void promise3Begin() {
        MacroReader reader = new MacroReader();
        String[] sources = {"", "\n", "a", "a\n", "a\nb", "a\n\n", "\n\n\n", "\n ", ";\u0000\n\u0000"};
        int[] lines = {0, 1, 1, 1, 2, 2, 3, 2, 2};
        for (int i = 0; i < sources.length; i++) {
            same("begin of " + sources[i], lines[i], typed(reader, sources[i]).begin());
        }
        same("begin again", 0, reader.begin());
        typed(reader, "macro m\nendm\n@\n").begin();
        same("fault", "IllegalArgumentException", throwsAtNext(reader));
        typed(reader, "m\nmacro m\nx \\@\nendm\nm\nif 1\na\n").begin();
        same("begin: no fault, no line, no depth", "-1 0 0 0", state(reader));
        same("begin: no macros", List.of("m @1 #0", "x 0 @5 #1", "a @7 #1"), answers(reader, 3));
        typed(reader, "macro m\nx \\@\nendm\nm\n").begin();
        same("begin amid", "-1 0 0 0", state(reader));
        same("begin: counts anew", List.of("x 0 @4 #1", "end"), answers(reader, 3));
        typed(reader, "a\nb\n").begin();
        same("text amid: first", "1", throwsAtNext(reader));
        typed(reader, "c\n");
        same("text amid: second", List.of("b @2 #0", "end"), answers(reader, 3));
        same("text amid: begin", 1, reader.begin());
        same("text amid: third", List.of("c @1 #0", "end"), answers(reader, 3));
        same("begin without text", 0, reader.begin());
        same("nothing to read", "-1", throwsAtNext(reader));
    }

    private static void promise4Next() {
        MacroReader reader = typed(new MacroReader(), "a b ;c\n\n  \n@\nx\n");
        reader.begin();
        same("next with comment", "6", throwsAtNext(reader));
        same("next empty", "0", throwsAtNext(reader));
        same("next blanks", "2", throwsAtNext(reader));
        same("next fault", "IllegalArgumentException", throwsAtNext(reader));
        same("next behind fault", "-1", throwsAtNext(reader));
        same("next behind fault again", "-1", throwsAtNext(reader));
        typed(reader, "a").begin();
        same("next of new source", "1", throwsAtNext(reader));
        same("next at end", "-1", throwsAtNext(reader));
        same("next behind end", "-1", throwsAtNext(reader));
    }

    private static void promise5Octet() {
        MacroReader reader = typed(new MacroReader(), "ab;\u0000\u0080\u00ff\r\nc\nif\n");
        same("octet ahead of begin", -1, reader.octet(0));
        reader.begin();
        same("octet ahead of next", -1, reader.octet(0));
        reader.next();
        int[] want = {97, 98, 59, 0, 128, 255, 13, -1};
        for (int i = 0; i < want.length; i++) {
            same("octet " + i, want[i], reader.octet(i));
        }
        same("octet -1", -1, reader.octet(-1));
        same("octet least", -1, reader.octet(Integer.MIN_VALUE));
        same("octet most", -1, reader.octet(Integer.MAX_VALUE));
        reader.next();
        same("octet of next line", 99, reader.octet(0));
        same("octet of line before", -1, reader.octet(1));
        same("fault", "IllegalArgumentException", throwsAtNext(reader));
        same("octet behind fault", -1, reader.octet(0));
        typed(reader, "d").begin();
        same("octet behind begin", -1, reader.octet(0));
        reader.next();
        same("octet of last line", 100, reader.octet(0));
        reader.next();
        same("octet behind end", -1, reader.octet(0));
        reads("macro m a\n\\a\\a\nendm\nm xyz", "xyzxyz @4 #1", "end");
    }

    private static void promise6Line() {
        reads("macro o\nrept 2\ni\nendr\nendm\nmacro i\np\nendm\n\nif 1\nq\nrept 1\no\nendr\no\nendif\nr",
                " @9 #0", "q @11 #1", "p @12 #5", "p @12 #5", "p @15 #4", "p @15 #4", "r @17 #0", "end");
        MacroReader reader = typed(new MacroReader(), "a\n\n?\nb");
        reader.begin();
        same("line ahead of next", 0, reader.line());
        reader.next();
        same("line of first", 1, reader.line());
        reader.next();
        same("line of empty one", 2, reader.line());
        same("fault", "IllegalArgumentException", throwsAtNext(reader));
        same("line of fault", 3, reader.line());
        same("behind it", "-1", throwsAtNext(reader));
        same("line of fault again", 3, reader.line());
        typed(reader, "a").begin();
        same("line behind begin", 0, reader.line());
        reader.next();
        reader.next();
        same("line behind end", 0, reader.line());
        reads("\nmacro m\nrept 1\n?\nendr\nendm\nrept 1\nm\nendr\n", " @1 #0", "kind 1 @7");
    }

    private static void promise7Fault() {
        MacroReader reader = typed(new MacroReader(), "a\n?\n");
        same("fault ahead of begin", 0, reader.fault());
        reader.begin();
        reader.next();
        same("fault amid", 0, reader.fault());
        same("throws", "IllegalArgumentException", throwsAtNext(reader));
        same("fault", 1, reader.fault());
        reader.next();
        same("fault stays", 1, reader.fault());
        typed(reader, "x");
        same("fault behind type", 1, reader.fault());
        reader.begin();
        same("fault behind begin", 0, reader.fault());
        reader.next();
        reader.next();
        same("fault behind end", 0, reader.fault());
        reads("?", "kind 1 @1");
        reads("macro macro\nendm", "kind 3 @1");
        reads(times("a", 1025), "kind 5 @1");
        reads("endm", "kind 6 @1");
        reads("rept 4097\nendr", "kind 7 @1");
    }

    private static void promise8Depth() {
        reads("a\nif 1\nb\nelse\nendif\nc\nif 0\nelse\nd\nendif\ne\nrept 1\nf\nendr\nmacro m\ng\nendm\nm\nh",
                "a @1 #0", "b @3 #1", "c @6 #0", "d @9 #1", "e @11 #0", "f @12 #1", "g @18 #1", "h @19 #0", "end");
        MacroReader reader = typed(new MacroReader(), "if 1\na\n");
        same("depth ahead of begin", 0, reader.depth());
        reader.begin();
        same("depth ahead of next", 0, reader.depth());
        reader.next();
        same("depth in if", 1, reader.depth());
        same("throws", "IllegalArgumentException", throwsAtNext(reader));
        same("depth behind fault", 0, reader.depth());
        typed(reader, "rept 2\na\nendr").begin();
        reader.next();
        same("depth in rept", 1, reader.depth());
        reader.next();
        same("depth at its last line", 1, reader.depth());
        reader.next();
        same("depth behind end", 0, reader.depth());
    }

    private static void goodTokens() {
        String[] lines = {"a", "_", ".", "..1", "a.b_C9", times("n", 63), "0", "00012", "18446744073709551615",
            "0000000000000000000000000018446744073709551615", "0x0", "0xfFaA09", "0x0000ffffffffffffffff", "0b0", "0b101",
            "0b0" + times("1", 64), "'a'", "' '", "'~'", "'\"'", "';'", "'\\''", "'\\\\'", "'\\n'", "'\\0'", "'\\q'", "'\\ '",
            "\"\"", "\"a'b;c\"", "\"\\\"\"", "\"\\\\\"", "\"\\~\"", "\"a\"b", "a\"b\"c", "a'b'", "'a''b'", "1'b'",
            ",:[]()+-*/%&|^~$", "<<>>", "<< >>", "<<<<", ") ( ] [", "$ff", "a,b;?", "1\t2", "a:b", "-1", "0,0x1"};
        for (String line : lines) {
            reads(line, line + " @1 #0", "end");
        }
    }

    private static void badTokens() {
        String[] lines = {"?", "@", "#", "!", "=", "{", "}", "`", "\\", "<", ">", "< <", "<<<", ">>>", "<>", "a\\b",
            times("n", 64), "1a", "1_", "1.", "1.5", "0x", "0b", "0X1", "0B1", "0b2", "0b12", "0xg", "0x1g", "0x1.", "08a",
            "18446744073709551616", "20000000000000000000", "184467440737095516150", "100000000000000000000", "99999999999999999999999", "0x10000000000000000",
            "36893488147419103232", "0b1" + times("0", 64), "''", "'''", "'", "'a", "'ab'", "'\\'", "'\\", "'a'b", "'a'1", "'a'_",
            "'a'.", "'\t'", "'\\\t'", "\"", "\"a", "\"\\\"", "\"a\tb\"", "\"\\\t\"", "\"\u007f\"", "'\u007f'", "\"a\"\"", "a ?"};
        for (String line : lines) {
            reads("x\n" + line, "x @1 #0", "kind 1 @2");
        }
    }

    private static void bytesAndComments() {
        for (int octet = 0; octet < 256; octet++) {
            String one = String.valueOf((char) octet);
            if (octet != 10) {
                reads(";" + one, ";" + one + " @1 #0", "end");
                reads("a ;?" + one + "b", "a ;?" + one + "b @1 #0", "end");
            }
            if (octet != 9 && octet != 10 && (octet < 32 || octet > 126)) {
                reads("a" + one, "kind 1 @1");
                reads(one, "kind 1 @1");
                reads("\"" + one + "\"", "kind 1 @1");
            }
        }
        reads("';' ;'", "';' ;' @1 #0", "end");
        reads("\";\" ;\"", "\";\" ;\" @1 #0", "end");
        reads("if 1;\nendif;x\nrept 1 ;\na\nendr\nmacro m a;\nendm\nm;1,2\nm 1;,", "a @3 #1", "end");
    }

    private static void plainLines() {
        reads("IF 0\nx if 0\nif.\nifx\n_if\n1 endif\n\"if\"\n: macro", "IF 0 @1 #0", "x if 0 @2 #0", "if. @3 #0", "ifx @4 #0",
                "_if @5 #0", "1 endif @6 #0", "\"if\" @7 #0", ": macro @8 #0", "end");
        reads("m 1\nmacro m a\n[\\a]\nendm\nm 1\nmm 1\nm: 1\nM 1", "m 1 @1 #0", "[1] @5 #1", "mm 1 @6 #0", "[: 1] @7 #1",
                "M 1 @8 #0", "end");
    }

    private static void conditions() {
        reads("if 2\na\nendif\nif 0\nb\nendif\nif 0\nc\nelse\nd\nendif\nif 0x8000000000000000\ne\nelse\nf\nendif",
                "a @2 #1", "d @10 #1", "e @13 #1", "end");
        reads("if '\\0'\na\nendif\nif '0'\nb\nendif\n \tif\t00 ; c\nc\n\tendif", "b @5 #1", "end");
        reads("if 0\nif 1\na\nelse\nb\nendif\nelse\nc\nendif\nd", "c @8 #1", "d @10 #0", "end");
        reads("if 1\nif 0\na\nendif\nb\nelse\nif 1\nc\nelse\nd\nendif\nendif\ne", "b @5 #1", "e @13 #0", "end");
        reads("if 0\n?\nendr\nmacro\nrept 9999\n" + times("y", 2000) + "\nelse ?\na\nendif", "a @8 #1", "end");
        reads("if 0\nendif ? 1\na", "a @3 #0", "end");
        reads("if 0\nelse\na\nelse\nb\nendif", "a @3 #1", "kind 6 @4");
        reads("if 0\nelse\nelse 1\nendif", "kind 6 @3");
        reads("if 1\na\nelse\nb\nelse\nc\nendif\nd", "a @2 #1", "d @8 #0", "end");
        reads("else", "kind 6 @1");
        reads("a\nendif 1", "a @1 #0", "kind 6 @2");
        reads("if 1\nendif\nelse", "kind 6 @3");
        reads("if 1\nendif 1", "kind 1 @2");
        reads("if 1\nelse 1\nendif", "kind 1 @2");
        reads("if 1\nelse 1", "kind 1 @2");
        for (String bad : new String[] {"if", "if ;1", "if x", "if -1", "if \"1\"", "if 1 2", "if 1,", "if (1)", "if 1 x"}) {
            reads(bad + "\nendif", "kind 1 @1");
            reads(bad, "kind 1 @1");
        }
        reads("if 0\na\nb", "kind 6 @3");
        reads("if 1\na\nelse\nb\n\n", "a @2 #1", "kind 6 @5");
        reads("if 1\nif 1\nendif\na\n", "a @4 #1", "kind 6 @4");
    }

    private static void repetition() {
        reads("rept 3\na\nb\nendr\nc", "a @1 #1", "b @1 #1", "a @1 #1", "b @1 #1", "a @1 #1", "b @1 #1", "c @5 #0", "end");
        reads("rept 0\na\n?\nendr\nb", "b @5 #0", "end");
        reads("rept 4096\nendr\na", "a @3 #0", "end");
        reads("rept 2\nrept 2\na\nendr\nb\nendr", "a @1 #2", "a @1 #2", "b @1 #1", "a @1 #2", "a @1 #2", "b @1 #1", "end");
        turns("'\\t'", 9);
        turns("'\\n'", 10);
        turns("'\\0'", 0);
        turns("'!'", 33);
        turns("'\\r'", 114);
        turns("'\\\\'", 92);
        turns("0x0aF", 175);
        turns("0b1101", 13);
        turns("0012", 12);
        turns("4096", 4096);
        reads("rept '\\t'\nendr ? 1\nrept 0b1\nx\n endr", "x @3 #1", "end");
        reads("rept 4096\nrept 4096\nendr\nendr\na", "a @5 #0", "end");
        reads("rept 4097\nendr", "kind 7 @1");
        reads("rept 0xffffffffffffffff\nendr", "kind 7 @1");
        reads("rept 0x8000000000000000", "kind 7 @1");
        for (String bad : new String[] {"rept", "rept x", "rept 1 1", "rept -1", "rept 1,", "rept 5000 1"}) {
            reads(bad + "\nendr", "kind 1 @1");
            reads(bad, "kind 1 @1");
        }
        reads("endr", "kind 6 @1");
        reads("a\nrept 1\na\n\nb", "a @1 #0", "kind 6 @5");
        reads("rept 1\nrept 1\nendr\n", "kind 6 @3");
        reads("rept 2\n\\a\\@\nendr", "kind 1 @1");
        reads("rept 2\nmacro m\nendm\nendr", "kind 6 @1");
        reads("rept 1\nif 1\nmacro m\nendm\nendif\nendr", "kind 6 @1");
        reads("rept 0\nmacro m\nendm\nendr\nmacro m\na\nendm\nm", "a @8 #1", "end");
    }

    private static void turns(String number, int want) {
        MacroReader reader = typed(new MacroReader(), "rept " + number + "\nx\nendr");
        reader.begin();
        same("turns of " + number, want, answers(reader, 5000).size() - 1);
    }

    private static void macroHeadings() {
        reads("macro m\na\nendm\nm\nm", "a @4 #1", "a @5 #1", "end");
        reads(" macro\tm\ta ,b,c.1 ; d\n\\a\\b\\c.1\n\tendm x ?\nm 1,2,3", "123 @4 #1", "end");
        reads("macro m if, m\n\\if\\m\nendm\nm 1, 2", "12 @4 #1", "end");
        reads("macro " + times("n", 63) + "\nx\nendm\n" + times("n", 63), "x @4 #1", "end");
        reads("if 1\nmacro m\nendif\na\nendm\nm\nendif\nb", "kind 6 @6");
        reads("if 1\nif 1\nmacro m\na\nendm\nendif\nendif\nm", "a @8 #1", "end");
        for (String bad : new String[] {"macro", "macro 1", "macro \"m\"", "macro m,", "macro m ,", "macro m a,", "macro m a b",
            "macro m ,a", "macro m a,,b", "macro m 1", "macro m a, 1", "macro m (a)", "macro m a:", "macro , a", "macro m a, b c"}) {
            reads(bad + "\nendm", "kind 1 @1");
            reads(bad, "kind 1 @1");
        }
        for (String word : new String[] {"if", "else", "endif", "rept", "endr", "macro", "endm"}) {
            reads("macro " + word + "\nendm", "kind 3 @1");
            reads("macro " + word + " 1", "kind 3 @1");
        }
        reads("macro m\nendm\nmacro m a\nendm", "kind 3 @3");
        reads("macro m\nendm\nmacro mm\nendm\nmacro M\nendm\nmacro m.\na\nendm\nm.", "a @10 #1", "end");
        reads("a\nmacro m\nb\nc", "a @1 #0", "kind 6 @4");
        reads("endm", "kind 6 @1");
        reads("macro m\nmacro k\nendm\nendm", "kind 6 @4");
        reads("macro m\nmacro k\nendm\nm", "kind 6 @4");
        reads("macro m\n?\nendm\na", "a @4 #0", "end");
    }

    private static void whatMacrosAreGiven() {
        String macro = "macro m a, b, c\n<<\\a:\\b:\\c>>\nendm\n";
        String[] given = {"", "1", "1,2", " 1 , 2\t,\t3 ", ",,", ",2", "(1,2),[3,4]", "((1,2),3),[4,(5],6)],7", "),],1", ")(1,2)",
            "(1,2", "[1,2", "',',\",\"", "\"(\",'[',1", "\"\\\",\",2", "a  b,c\td", ";1", ";,,,,", "1;,2", "1 ,;", "'\\'',2", "1,(2;,"};
        String[] want = {"::", "1::", "1:2:", "1:2:3", "::", ":2:", "(1,2):[3,4]:", "((1,2),3):[4,(5],6)]:7", "):]:1", ")(1,2)::",
            "(1,2::", "[1,2::", "',':\",\":", "\"(\":'[':1", "\"\\\",\":2:", "a  b:c\td:", "::", "::", "1::", "1::", "'\\'':2:", "1:(2:"};
        for (int i = 0; i < given.length; i++) {
            reads(macro + "m " + given[i], "<<" + want[i] + ">> @4 #1", "end");
        }
        reads(macro + "m:", "<<:::>> @4 #1", "end");
        reads(macro + "m,", "<<::>> @4 #1", "end");
        reads(macro + "m\"x\"", "<<\"x\"::>> @4 #1", "end");
        reads(macro + "m ,,,", "kind 6 @4");
        reads(macro + "m 1,2,3,4", "kind 6 @4");
        reads(macro + "m (1,2),),3,4", "kind 6 @4");
        reads(macro + "m ?", "kind 1 @4");
        reads("macro n\na\nendm\nn ;x\nn x", "a @4 #1", "kind 6 @5");
        reads("macro n\na\nendm\nn ,", "kind 6 @4");
        StringBuilder names = new StringBuilder("p");
        StringBuilder things = new StringBuilder("1");
        for (int i = 1; i < 500; i++) {
            names.append(",p");
            things.append(",2");
        }
        reads("macro m " + names + "\n\\p\nendm\nm " + things + "\nm " + things + ",3", "1 @4 #1", "kind 6 @5");
    }

    private static void whatIsReplaced() {
        reads("macro m a, ab, abc\n\\a \\ab \\abc \\abcd \\ac\nendm\nm x,y,z", "x y z zd xc @4 #1", "end");
        reads("macro m ab, a\n\\a\\ab\\aab\nendm\nm p,q", "qpqab @4 #1", "end");
        reads("macro m a, a\n\\a\nendm\nm 1,2\nm ,2", "1 @4 #1", " @5 #1", "end");
        reads("macro m a\n\"\\a\" '\\a' ;\\a \\b \\ \\@\nendm\nm x", "\"x\" 'x' ;x \\b \\ 0 @4 #1", "end");
        reads("macro m a\n\"\\\\a\" ;\\\\\\a\\\nendm\nm x", "\"\\x\" ;\\\\x\\ @4 #1", "end");
        reads("macro m a\n\"\\n\\\"\"\nendm\nm x", "\"\\n\\\"\" @4 #1", "end");
        reads("macro m a\n;\\A \\ a\nendm\nm x", ";\\A \\ a @4 #1", "end");
        reads("macro m a\n\\a\nendm\nm \"\\a\\@\"", "\"\\a\\@\" @4 #1", "end");
        reads("macro m a\n;\\\nendm\nm x", ";\\ @4 #1", "end");
        reads("macro m a\n\\b\nendm\nm x", "kind 1 @4");
        reads("macro m a\n;\\\na\nendm\nm x", ";\\ @5 #1", "a @5 #1", "end");
        reads("macro i\ni\\@\nendm\nmacro o\no\\@\ni\no\\@\nendm\ni\no\nrept 2\ni\nendr\ni",
                "i0 @9 #1", "o1 @10 #1", "i2 @10 #2", "o1 @10 #1", "i3 @11 #2", "i4 @11 #2", "i5 @14 #1", "end");
        reads("macro e\nendm\nmacro i\ni\\@\nendm\n" + times("e\n", 123) + "i", "i123 @129 #1", "end");
        reads("macro i a\n\\a\nendm\nmacro o a, b\ni \\b\n\\a\nrept 2\n\\b\nendr\nif \\a\ni \\a\nendif\nendm\no 1, 2",
                "2 @14 #2", "1 @14 #1", "2 @14 #2", "2 @14 #2", "1 @14 #3", "end");
        reads("macro w a, b\n\\a \\b\nx\nendr\nendm\nw rept, 2", "x @6 #2", "x @6 #2", "end");
        reads("macro w a\n\\a\nendm\nw if 0", "kind 6 @4");
        reads("macro w a\n\\a\nendm\nmacro k\ny\nendm\nw k", "y @7 #2", "end");
        reads("macro w a\n\\a\nendm\nw macro", "kind 6 @4");
        reads("macro w a\nif 1\nx\n\\a\ny\nendif\nendm\nw endif", "x @8 #2", "y @8 #1", "kind 6 @8");
        reads("macro down n\nif \\n\nleft \\n\ndown 0\nendif\nendm\ndown 1", "left 1 @7 #2", "end");
    }

    private static void howEndsAreFound() {
        reads("if 0\na\n endif:\nb", "b @4 #0", "end");
        reads("if 0\nendifx\nendif.\n;endif\n\"a\" endif\nx endif\n:endif\n1endif\n\tendif\nb", "b @10 #0", "end");
        reads("if 0\nif\nif ?\nendif ?\nelse\nendif\nelse\nb\nendif", "b @8 #1", "end");
        reads("if 0\nmacro m\nelse\na\nendm\nendif", "a @4 #1", "kind 6 @5");
        reads("if 0\nrept 2\nendif\na\n", "a @4 #0", "end");
        reads("rept 1\na\nif 0\nrept 1\nendif\nendr\nb\nendr\nc", "a @1 #1", "kind 6 @1");
        reads("rept 1\na\nif 0\nrept 1\nendr\nendif\nb\nendr\nc", "a @1 #1", "b @1 #1", "c @9 #0", "end");
        reads("rept 1\na\nif 0\nendr\nendif\n", "a @1 #1", "kind 6 @1");
        reads("macro m e\nif 0\n\\e\nendif\na\nendm\nm endif", "a @7 #1", "end");
        reads("macro m e\nif 0\nendif\\e\na\nendm\nm x", "a @6 #1", "end");
        reads("macro m e\nrept 2\na\n\\e\nendr\nendm\nm endr", "a @7 #2", "kind 6 @7");
        reads("macro m e\na\n\\e\nendm\nm endm", "a @5 #1", "kind 6 @5");
    }

    private static void sameLines() {
        reads("if 1\nrept 1\nendif\nendr", "kind 6 @2");
        reads("if 1\nrept 1\nelse\nendr\nendif", "kind 6 @2");
        reads("macro m\nendif\nendm\nif 1\nm\nendif", "kind 6 @5");
        reads("macro m\nelse\nendm\nif 1\nm\nendif", "kind 6 @5");
        reads("macro m\nif 1\nendm\nm\nendif\na", "kind 6 @4");
        reads("macro m\nif 0\nendm\nm\nendif\na", "kind 6 @4");
        reads("macro m\nrept 1\nendm\nm\nendr\na", "kind 6 @4");
        reads("macro m\nrept 9999 x\nendm\nm\nendr\na", "kind 6 @4");
        reads("macro m\nif x\nendm\nm\nendif\na", "kind 6 @4");
        reads("macro m\nif 1\nendif\\@\nendm\nm\nendif\na", "endif0 @5 #2", "kind 6 @5");
        reads("macro m a, b\nif 1\nendif\\a\n\\b\nendm\nm x, else", "endifx @6 #2", "kind 6 @6");
        reads("rept 1\nrept 1\nif 1\nendr\nendif\nendr", "kind 6 @1");
    }

    private static void limits() {
        String most = times("a ", 512);
        reads(most + "\n" + most + ";", most + " @1 #0", "kind 5 @2");
        reads("a;" + times("\u00ff", 1022) + "\na;" + times("?", 1023), "a;" + times("\u00ff", 1022) + " @1 #0", "kind 5 @2");
        reads("macro m a\n" + times("x ", 500) + "\\a\nendm\nm " + times("y ", 12) + "\nm " + times("y ", 13),
                times("x ", 500) + times("y ", 11) + "y @4 #1", "kind 5 @5");
        reads("macro m abc\n;" + times("\\abc", 256) + "\nendm\nm", "kind 5 @4");
        reads("macro m abc\n;" + times("\\abc", 255) + "xyz\nendm\nm\nm x", ";xyz @4 #1",
                ";" + times("x", 255) + "xyz @5 #1", "end");
        reads("if 0\n" + times("a", 1025) + "\nendif " + times("a", 1025) + "\nb", "b @4 #0", "end");
        reads("rept 0\n" + times("a", 1025) + "\nendr " + times("a", 1025) + "\nb", "b @4 #0", "end");
        reads(times("if 1\n", 20) + "a\n" + times("endif\n", 20) + "b", "a @21 #20", "b @42 #0", "end");
        reads(times("if 1\n", 20) + "a\nif 0\nendif\n", "a @21 #20", "kind 6 @22");
        reads(times("if 1\n", 20) + "rept 0\nendr\n", "kind 6 @21");
        reads("macro m\nendm\n" + times("if 1\n", 20) + "m\n", "kind 6 @23");
        reads(times("if 1\n", 20) + "macro m\nendm\n" + times("endif\n", 20) + "m\na", "a @44 #0", "end");
        reads("macro m a\n\\a\nm 1\\a\nendm\nm", " @5 #1", "1 @5 #2", "11 @5 #3", "111 @5 #4", "1111 @5 #5", "11111 @5 #6",
                "111111 @5 #7", "1111111 @5 #8", "11111111 @5 #9", "111111111 @5 #10", "1111111111 @5 #11", "11111111111 @5 #12",
                "111111111111 @5 #13", "1111111111111 @5 #14", "11111111111111 @5 #15", "111111111111111 @5 #16",
                "1111111111111111 @5 #17", "11111111111111111 @5 #18", "111111111111111111 @5 #19", "1111111111111111111 @5 #20",
                "kind 6 @5");
        linesRead();
    }

    private static void linesRead() {
        // The rept, 16 lines in each of 4095 turns and 15 more are 65536; an endif that is gone on behind is none.
        String skipped = "if 0\nendif\n";
        String start = "rept 4095\n" + times(skipped, 16) + "endr\n";
        reads(start + times(skipped, 15), "end");
        reads(start + times(skipped, 16), "kind 5 @65");
        reads(start + times(skipped, 14) + "a", "a @63 #0", "end");
        reads(start + times(skipped, 15) + "?", "kind 5 @65");
        reads(start + times(skipped, 13) + "macro m\nendm\nm\n", "end");
        reads(start + times(skipped, 13) + "macro m\na\nendm\nm\n", "kind 5 @64");
        reads(start + times(skipped, 13) + "if 1\nendif\n", "end");
        reads(start + times(skipped, 13) + "if 1\nendif\na", "kind 5 @63");
        reads(start + times(skipped, 13) + "if 0\n?\nelse\na\nendif", "a @64 #1", "kind 5 @65");
        reads("rept 4096\nrept 4096\nif 0\nendif\nendr\nendr", "kind 5 @1");
        reads("macro m\nrept 4096\nm\nendr\nendm\nm", "kind 6 @6");
        MacroReader reader = new MacroReader();
        for (int i = 0; i < 3; i++) {
            typed(reader, start + times(skipped, 15)).begin();
            same("lines are counted anew", List.of("end"), answers(reader, 2));
        }
    }

    private static void orderOfFaults() {
        reads(times("?", 1025), "kind 5 @1");
        reads("endif ?", "kind 1 @1");
        reads("macro m a\nendm\nm 1,2,?", "kind 1 @3");
        reads("macro if ?", "kind 1 @1");
        reads("rept 1\nmacro if\nendr", "kind 6 @1");
        reads("rept 1\nmacro 1\nendr", "kind 6 @1");
        reads(times("if 1\n", 20) + "if x\n", "kind 6 @21");
        reads(times("if 1\n", 20) + "rept 5000\n", "kind 6 @21");
        reads("if 1\nelse\nendif\nelse x", "kind 6 @4");
        reads("macro m\nendm\nmacro m 1", "kind 3 @3");
        reads("rept 5000 x", "kind 1 @1");
        reads("rept 5000", "kind 7 @1");
        reads("macro m 1", "kind 1 @1");
        reads("if 1\n?", "kind 1 @2");
        reads("a\n?\n@", "a @1 #0", "kind 1 @2");
    }

    private static void manyObjects() {
        MacroReader one = typed(new MacroReader(), "macro m a\n\\a\nendm\nm 1\nm 2");
        MacroReader two = typed(new MacroReader(), "m 1\n?");
        one.begin();
        two.begin();
        one.next();
        two.next();
        same("one of two", "49 4 0 1", state(one));
        same("two of two", "109 1 0 0", state(two));
        same("fault of two", "IllegalArgumentException", throwsAtNext(two));
        same("one goes on", List.of("2 @5 #1", "end"), answers(one, 3));
        same("two stays", "-1 2 1 0", state(two));
    }
}
