/** The edges that the document's terms name for texts: the buffer, tokens and values. */
public final class EdgesOfTextTest {
    private static final Checks CHECKS = new Checks("EdgesOfTextTest");

    public static void main(String[] args) {
        roomOfTheBuffer();
        charactersOfTheBuffer();
        words();
        digits();
        numbersBehindOneAnother();
        signAndNumber();
        minusZero();
        charactersOfStrings();
        newlineInStrings();
        escapes();
        openStrings();
        signs();
        spaces();
        capitals();
        newlines();
        wordsAsValues();
        members();
        elements();
        depth();
        depthInPatches();
        twoOfOneName();
        CHECKS.end();
    }

    private static void create(String text, int want) {
        CHECKS.anew();
        CHECKS.creates(Checks.quoted(text), want);
    }

    private static void right(String text, String rest) {
        create(text, 1);
        CHECKS.is(1, 1, Checks.quoted(rest));
    }

    /** Wrong as a text for create, and nothing comes of it. */
    private static void wrong(String text) {
        create(text, PeopleStore.SYNTAX);
        CHECKS.stands("");
    }

    /** Whether the text is a value: those of id may be any, and must be one. */
    private static void isValue(String text, boolean want) {
        create("{'name':'a','id':" + text + "}", want ? 1 : PeopleStore.SYNTAX);
        CHECKS.anew("{\"name\":\"a\"}");
        CHECKS.patches(Checks.quoted("=age:" + text), want ? patched(text) : PeopleStore.SYNTAX);
    }

    private static int patched(String text) {
        return text.matches("-?[0-9]+") ? 2 : PeopleStore.UNFIT;
    }

    private static void query(String text, int want) {
        CHECKS.anew("{\"name\":\"a\",\"age\":5}");
        CHECKS.queries(Checks.quoted(text), want);
    }

    private static void roomOfTheBuffer() {
        CHECKS.about("THE BUFFER holds at most 120 characters");
        for (int used = 115; used <= 120; used++) {
            for (int n = 1; n <= 4; n++) {
                CHECKS.anew();
                CHECKS.say(" ".repeat(used - 12) + "{\"name\":\"a\"}");
                boolean fits = used + n <= 120;
                CHECKS.due(n + " behind " + used, CHECKS.store().put(0x7a7a7a7a, n), fits);
                CHECKS.due("create of them", CHECKS.store().create(), fits ? PeopleStore.SYNTAX : 1);
            }
        }
    }

    private static void charactersOfTheBuffer() {
        CHECKS.about("each 10 (newline) or 32 .. 126");
        int[] allowed = {10, 32, 33, 125, 126};
        int[] refused = {0, 1, 8, 9, 11, 12, 13, 30, 31, 127, 128, 129, 138, 160, 254, 255};
        for (int n = 1; n <= 4; n++) {
            for (int place = 0; place < n; place++) {
                CHECKS.anew();
                int others = 0x61616161 & ~(255 << 8 * place);
                for (int c : allowed) {
                    CHECKS.due(c + " at " + place, CHECKS.store().put(others | c << 8 * place, n), true);
                }
                for (int c : refused) {
                    CHECKS.due(c + " at " + place, CHECKS.store().put(others | c << 8 * place, n), false);
                }
            }
        }
    }

    private static void words() {
        CHECKS.about("WORDS (one or more letters, as many as there are)");
        query("mail.v pr", 0);
        query("mail.vv pr", PeopleStore.SYNTAX);
        query("name pr", 1);
        query("namepr", PeopleStore.SYNTAX);
        query("name pror name pr", PeopleStore.SYNTAX);
        query("age eq 5and name pr", 1);
        query("name eq'a'and age pr", 1);
        query("name5 pr", PeopleStore.SYNTAX);
        query("na me pr", PeopleStore.SYNTAX);
        query("name_ pr", PeopleStore.SYNTAX);
        query("truename pr", PeopleStore.SYNTAX);
        isValue("true", true);
        isValue("truefalse", false);
        isValue("drue", false);
        isValue("trud", false);
        isValue("talse", false);
        query("name pr ar name pr", PeopleStore.SYNTAX);
        query("name pr ond name pr", PeopleStore.SYNTAX);
        query("bot(name pr)", PeopleStore.SYNTAX);
        isValue("true false", false);
    }

    private static void digits() {
        CHECKS.about("NUMBERS (perhaps - , then at once 0, or a digit 1 .. 9 and up to 8 digits more");
        for (int first = 0; first <= 9; first++) {
            right("{'name':'a','age':" + first + "}", "'name':'a','age':" + first);
        }
        String digits = "9876543210";
        for (int many = 1; many <= 10; many++) {
            String number = digits.substring(0, many);
            for (String each : new String[] {number, "-" + number}) {
                isValue(each, many <= 9);
                query("age ne " + each, many <= 9 ? 1 : PeopleStore.SYNTAX);
                if (many <= 9) {
                    right("{'name':'a','age':" + each + "}", "'name':'a','age':" + each);
                } else {
                    wrong("{'name':'a','age':" + each + "}");
                }
            }
        }
    }

    private static void numbersBehindOneAnother() {
        CHECKS.about("what comes behind begins another token: 01 are two numbers");
        for (String text : new String[] {"01", "00", "-01", "-00", "0 1", "1 0", "5-5", "5-", "1.0", "1e5"}) {
            isValue(text, false);
            query("age eq " + text, PeopleStore.SYNTAX);
        }
        isValue("[0,1]", true);
        isValue("[01]", false);
        isValue("[5-5]", false);
        isValue("[5,-5]", true);
        query("age eq 5or age eq 0or name pr", 1);
    }

    private static void signAndNumber() {
        CHECKS.about("- 5 a sign and a number");
        isValue("-5", true);
        isValue("- 5", false);
        isValue("- 0", false);
        isValue("--5", false);
        isValue("+5", false);
        isValue("-", false);
        query("age eq - 5", PeopleStore.SYNTAX);
        CHECKS.anew("{\"name\":\"a\"}");
        CHECKS.patches("-5", PeopleStore.SYNTAX);
        CHECKS.patches("-5age", PeopleStore.SYNTAX);
    }

    private static void minusZero() {
        CHECKS.about("-0 is 0");
        right("{'name':'a','age':-0}", "'name':'a','age':0");
        CHECKS.queries("age eq 0", 1);
        CHECKS.queries("age eq -0", 1);
        CHECKS.queries("age lt 0", 0);
        CHECKS.queries("age gt -0", 0);
        CHECKS.patches("=age:0", 1);
        CHECKS.patches("=age:-0", 1);
        CHECKS.replaces(1, 0, "{\"name\":\"a\",\"age\":-0}", 1);
    }

    private static void charactersOfStrings() {
        CHECKS.about("STRINGS (\" , characters 32 .. 126 other than \" and \\");
        for (char c = 32; c <= 126; c++) {
            if (c != '"' && c != '\\') {
                CHECKS.anew("{\"name\":\"" + c + "\",\"mail\":[{\"v\":\"" + c + "\"}]}");
                CHECKS.is(1, 1, "\"name\":\"" + c + "\",\"mail\":[{\"v\":\"" + c + "\"}]");
                CHECKS.queries("name eq \"" + c + "\" and mail eq \"" + c + "\"", 1);
            }
        }
        isValue("''", true);
        isValue("' '", true);
    }

    private static void newlineInStrings() {
        CHECKS.about("characters 32 .. 126: no newline in a string");
        wrong("{'name':'a\n'}");
        wrong("{'name':'\n'}");
        wrong("{'na\nme':'a'}");
        query("name co '\n'", PeopleStore.SYNTAX);
        isValue("'\n'", false);
    }

    private static void escapes() {
        CHECKS.about("or \\ and one of \" \\ / which stands for the latter");
        for (char c = 32; c <= 126; c++) {
            boolean escaped = c == '"' || c == '\\' || c == '/';
            CHECKS.anew();
            CHECKS.creates("{\"name\":\"x\\" + c + "y\"}", escaped ? 1 : PeopleStore.SYNTAX);
            if (escaped) {
                CHECKS.is(1, 1, "\"name\":\"x" + (c == '/' ? "" : "\\") + c + "y\"");
                CHECKS.patches("=name:\"x" + (c == '/' ? "/" : "\\" + c) + "y\"", 1);
            }
        }
        CHECKS.anew();
        CHECKS.creates("{\"name\":\"a\\\n\"}", PeopleStore.SYNTAX);
        CHECKS.creates("{\"n\\ame\":\"a\"}", PeopleStore.SYNTAX);
        CHECKS.creates("{\"\\\\\":\"a\"}", PeopleStore.UNFIT);
    }

    private static void openStrings() {
        CHECKS.about("STRINGS: a \" ends them");
        wrong("{'name':'a");
        wrong("{'name':'a}");
        wrong("{'name':a'}");
        wrong("{'name':'a''}");
        wrong("'");
        wrong("{'name':'a\\'}");
        wrong("{'name':'\\");
        wrong("{'name':'a'}'");
        query("name eq 'a", PeopleStore.SYNTAX);
        // Up to the last place of a full buffer.
        wrong("{'name':'" + "a".repeat(111));
        wrong("{'name':'" + "a".repeat(110) + "\\");
        create("{'name':'" + "a".repeat(109) + "'}", PeopleStore.UNFIT);
    }

    private static void signs() {
        CHECKS.about("and the signs { } [ ] ( ) : , . + - =");
        for (char c = 33; c <= 126; c++) {
            boolean standsInStrings = c == '"' || c == '\\';
            if (!standsInStrings) {
                wrong("{'name':'a'}" + c);
                wrong(c + "{'name':'a'}");
                isValue("" + c, c >= '0' && c <= '9');
                query("name pr " + c, PeopleStore.SYNTAX);
                CHECKS.anew("{\"name\":\"a\"}");
                CHECKS.patches("-age" + c, PeopleStore.SYNTAX);
            }
        }
    }

    private static void spaces() {
        CHECKS.about("before and behind tokens any number of spaces may stand");
        for (int many = 0; many <= 2; many++) {
            String s = " ".repeat(many);
            right(String.join(s, "", "{", "'name'", ":", "'a'", ",", "'mail'", ":", "[", "{", "'v'", ":",
                "'x'", "}", "]", "}", ""), "'name':'a','mail':[{'v':'x'}]");
            CHECKS.queries(Checks.quoted(String.join(s, "", "mail", "[", "(", "v", " ", "eq", " ", "'x'", ")",
                "]", "and", " ", "mail", ".", "v", " ", "pr", "")), 1);
            CHECKS.patches(Checks.quoted(String.join(s, "", "=", "mail", "[", "v", " ", "pr", "]", ".", "v",
                ":", "'y'", "\n", "-", "mail", ".", "p", "\n", "+", ":", "{", "}", "")), 2);
        }
        right(" ".repeat(54) + "{'name':'a'}" + " ".repeat(54), "'name':'a'");
        CHECKS.patches(" ".repeat(38) + "-" + " ".repeat(38) + "age" + " ".repeat(40), 1);
        CHECKS.queries(" ".repeat(57) + "id" + " ".repeat(54) + "pr" + " ".repeat(5), 1);
    }

    private static void capitals() {
        CHECKS.about("Capital and small letters count as alike in words and in the names of members");
        right("{'NAME':'a','AGE':5,'ON':TRUE,'MAIL':[{'V':'x','P':FALSE}],'ID':1,'VERSION':1}",
            "'name':'a','age':5,'on':true,'mail':[{'v':'x','p':false}]");
        CHECKS.queries(Checks.quoted("NAME EQ 'a' AND AGE NE 6 AND ID GT 0 AND VERSION GE 1 OR ON PR"), 1);
        CHECKS.queries(Checks.quoted("NAME CO 'a' AND NAME SW 'a' AND NAME EW 'a' AND AGE LT 6 AND AGE LE 5"),
            1);
        CHECKS.queries(Checks.quoted("MAIL[V PR AND NOT(P EQ TRUE)] AND MAIL.V EQ 'x' AND MAIL.P EQ FALSE"), 1);
        CHECKS.patches(Checks.quoted("-AGE\n-ON\n=MAIL[V EQ 'x'].P:TRUE\n=MAIL.V:'y'\n+:{'AGE':1}"), 2);
        CHECKS.is(1, 2, Checks.quoted("'name':'a','age':1,'mail':[{'v':'y','p':true}]"));
    }

    private static void newlines() {
        CHECKS.about("a newline is a token, in all other texts SYNTAX");
        wrong("\n{'name':'a'}");
        wrong("{'name':'a'}\n");
        wrong("{'name':\n'a'}");
        wrong("{'name':'a',\n'age':5}");
        query("\n", PeopleStore.SYNTAX);
        query(" \n ", PeopleStore.SYNTAX);
        query("\nname pr", PeopleStore.SYNTAX);
        query("name pr\n", PeopleStore.SYNTAX);
        query("name pr\nor name pr", PeopleStore.SYNTAX);
        CHECKS.anew("{\"name\":\"a\"}");
        CHECKS.replaces(1, 0, "{\"name\":\"b\"}\n", PeopleStore.SYNTAX);
        CHECKS.stands("", "{'id':1,'version':1,'name':'a'}");
    }

    private static void wordsAsValues() {
        CHECKS.about("A VALUE: the word true or false, a number, a string, an OBJECT, an ARRAY");
        for (String text : new String[] {"true", "false", "True", "FALSE", "0", "-1", "''", "'a'", "{}",
                "[]"}) {
            isValue(text, true);
        }
        for (String text : new String[] {"", "null", "t", "tru", "trues", "yes", "a", "(1)", "()", ":", ".",
                "=", ","}) {
            isValue(text, false);
        }
    }

    private static void members() {
        CHECKS.about("{ , nothing or MEMBERS with , between them, } , each a string, : , a value");
        for (String text : new String[] {"{}", "{ }", "{'a':1}", "{'a':1,'b':2}", "{'':1}",
                "{'a':1,'b':2,'c':3}"}) {
            isValue(text, true);
        }
        for (String text : new String[] {"{", "}", "{,}", "{'a':1,}", "{,'a':1}", "{'a':1,,'b':2}",
                "{'a':1 'b':2}", "{'a'}", "{'a':}", "{'a' 1}", "{:1}", "{a:1}", "{1:1}", "{true:1}", "{'a':1]",
                "{'a'::1}", "{1}", "{'a'.1}", "{'a':1.'b':2}", "{'a':1", "{{}:1}", "{'a':1}}"}) {
            isValue(text, false);
        }
    }

    private static void elements() {
        CHECKS.about("[ , nothing or values with , between them, ]");
        for (String text : new String[] {"[]", "[ ]", "[1]", "[1,2]", "[1,'a',true,{},[]]", "[[],[]]"}) {
            isValue(text, true);
        }
        for (String text : new String[] {"[", "]", "[,]", "[1,]", "[,1]", "[1,,2]", "[1 2]", "[1}", "[a]",
                "[1:2]", "['a':1]", "[1", "[1]]", "[1.2]"}) {
            isValue(text, false);
        }
    }

    private static void depth() {
        CHECKS.about("Objects and arrays lie at most 3 deep in one another");
        // The resource's own object is the first.
        String[] two = {"[[]]", "[{}]", "{'a':[]}", "{'a':{}}", "[[],[],{}]", "[[1],{'a':1}]"};
        String[] three = {"[[[]]]", "[[{}]]", "[{'a':[]}]", "[{'a':{}}]", "{'a':[[]]}", "{'a':[{}]}",
            "{'a':{'b':[]}}", "{'a':{'b':{}}}", "[1,[],[[1]]]"};
        for (String each : two) {
            right("{'name':'a','id':" + each + "}", "'name':'a'");
            right("{'version':" + each + ",'name':'a'}", "'name':'a'");
        }
        for (String each : three) {
            wrong("{'name':'a','id':" + each + "}");
            wrong("{'version':" + each + ",'name':'a'}");
            wrong("{'mail':" + each + "}");
        }
        right("{'name':'a','mail':[{'v':'x'}]}", "'name':'a','mail':[{'v':'x'}]");
        wrong("{'name':'a','mail':[{'v':[]}]}");
        create("{'name':'a','mail':[[]]}", PeopleStore.UNFIT);
        wrong("[".repeat(60) + "]".repeat(60));
    }

    private static void depthInPatches() {
        CHECKS.about("Objects and arrays lie at most 3 deep in one another (the value of an operation)");
        CHECKS.anew("{\"name\":\"a\"}");
        CHECKS.patches(Checks.quoted("+mail:[[[]]]"), PeopleStore.UNFIT);
        CHECKS.patches(Checks.quoted("+mail:[[[[]]]]"), PeopleStore.SYNTAX);
        CHECKS.patches(Checks.quoted("+id:{'a':{'b':{}}}"), PeopleStore.MUTABILITY);
        CHECKS.patches(Checks.quoted("+id:{'a':{'b':{'c':[]}}}"), PeopleStore.SYNTAX);
        CHECKS.patches(Checks.quoted("=:{'mail':[{'v':'x'}]}"), 2);
        CHECKS.patches(Checks.quoted("=:{'mail':[{'v':{}}]}"), PeopleStore.SYNTAX);
        CHECKS.patches(Checks.quoted("=:{'id':[[]]}"), 2);
        CHECKS.patches(Checks.quoted("=:{'id':[[[]]]}"), PeopleStore.SYNTAX);
    }

    private static void twoOfOneName() {
        CHECKS.about("no object has two members of one name (else it is no value: SYNTAX)");
        for (String text : new String[] {"{'a':1,'b':2}", "{'a':1,'aa':2}", "{'a':1,'':2}", "{'[':1,'{':2}",
                "{'@':1,'`':2}", "{'a':1,'b':{'a':2}}", "{'a':{'b':1},'b':{'b':1}}", "[{'a':1},{'a':2}]"}) {
            isValue(text, true);
        }
        for (String text : new String[] {"{'a':1,'a':1}", "{'a':1,'A':1}", "{'Z':1,'z':1}", "{'':1,'':2}",
                "{'a':1,'b':2,'a':3}", "{'a':1,'b':2,'c':3,'B':4}", "{'\\/':1,'/':2}", "[{'a':1,'a':2}]",
                "{'b':{'a':1,'A':2}}"}) {
            isValue(text, false);
        }
        // It counts ahead of names that are none, and of values that do not fit.
        wrong("{'name':'a','name':'a'}");
        wrong("{'zz':1,'zz':1}");
        wrong("{'name':5,'NAME':5}");
        wrong("{'name':'a','mail':[{'v':'x','v':'y'}]}");
    }
}
