/** The edges that the document's terms name for filters. */
public final class EdgesOfFilterTest {
    private static final Checks CHECKS = new Checks("EdgesOfFilterTest");
    private static final String[] OPERATORS = {"eq", "ne", "co", "sw", "ew", "gt", "ge", "lt", "le"};

    public static void main(String[] args) {
        rows();
        andBindsCloser();
        nots();
        groups();
        pathsOutside();
        pathsInside();
        presence();
        operators();
        kinds();
        structuredValues();
        lengthsOfStrings();
        depthOfRounds();
        depthOfBoth();
        depthOfTargets();
        noValues();
        oneOfMany();
        notEqual();
        numbersAround();
        stringsAround();
        stringsThatBeginSo();
        placesOfPieces();
        emptyStrings();
        namesAsSmall();
        othersAsTheyAre();
        oneItem();
        CHECKS.end();
    }

    private static void begin(String... people) {
        CHECKS.anew();
        for (int i = 0; i < people.length; i++) {
            CHECKS.creates(Checks.quoted(people[i]), i + 1);
        }
    }

    private static void finds(String filter, String want) {
        CHECKS.finds(Checks.quoted(filter), want);
    }

    /** On a new store with one resource that has all there can be. */
    private static void query(String filter, int want) {
        begin("{'name':'a','age':5,'on':true,'mail':[{'v':'x','p':true}]}");
        CHECKS.queries(Checks.quoted(filter), want);
    }

    private static void wrong(String filter) {
        query(filter, PeopleStore.SYNTAX);
    }

    private static void rows() {
        CHECKS.about("OR: ANDs with the word or between them. AND: TERMS with the word and between them");
        for (String word : new String[] {"or", "and"}) {
            query("id pr" + (" " + word + " id pr").repeat(0), 1);
            query("id pr" + (" " + word + " id pr").repeat(1), 1);
            query("id pr" + (" " + word + " id pr").repeat(9), 1);
            wrong("id pr " + word);
            wrong(word + " id pr");
            wrong(word);
            wrong("id pr " + word + " " + word + " id pr");
            wrong("id pr or and id pr");
            wrong("id pr and or id pr");
        }
        wrong("id pr id pr");
        wrong("id pr, id pr");
        wrong("id pr + id pr");
        wrong("id pr)");
        wrong("id pr]");
        wrong("id");
    }

    private static void andBindsCloser() {
        CHECKS.about("OR: ANDs; AND: TERMS");
        begin("{'name':'a'}", "{'name':'b'}", "{'name':'c'}");
        finds("id eq 1 or id eq 2 and id eq 3", "1");
        finds("id eq 3 and id eq 2 or id eq 1", "1");
        finds("id eq 1 and id eq 1 or id eq 2 and id eq 2", "1 2");
        finds("(id eq 1 or id eq 2) and id eq 2", "2");
        finds("id eq 2 and (id eq 1 or id eq 2)", "2");
        finds("not(id eq 1) and id eq 1 or id eq 3", "3");
        finds("not(id eq 1 and id eq 1 or id eq 3)", "2");
    }

    private static void nots() {
        CHECKS.about("TERM: the word not, ( , OR, )");
        query("not(id pr)", 0);
        query("not(id eq 9)", 1);
        query("not(not(id pr))", 1);
        query("mail[not(v pr)]", 0);
        wrong("not id pr");
        wrong("not not(id pr)");
        wrong("not mail[v pr]");
        wrong("not[id pr]");
        wrong("not()");
        wrong("not(id pr");
        wrong("not");
        wrong("mail[not v pr]");
        wrong("(id pr)not");
    }

    private static void groups() {
        CHECKS.about("( , OR, ) ; the word mail, [ , OR, ]");
        query("(id pr)", 1);
        query("(id pr or id pr and id pr)", 1);
        query("mail[v pr]", 1);
        query("mail[v pr or p pr and v pr]", 1);
        for (String each : new String[] {"()", "mail[]", "(id pr", "mail[v pr", "(id pr]", "mail[v pr)",
                "mail(v pr)", "[id pr]", "(id pr))", "mail[v pr]]", "name[v pr]", "id[v pr]", "v[v pr]",
                "mail.v[v pr]", "mail[v pr].v pr", "mail[v pr] pr", "mail[v pr] eq 'x'", "(name) pr",
                "(id pr) pr", "()id pr"}) {
            wrong(each);
        }
    }

    private static void pathsOutside() {
        CHECKS.about("PATH: an attribute's name; or mail, . , v or p");
        for (String path : new String[] {"id", "version", "name", "age", "on", "mail", "mail.v", "mail.p",
                "mail . v"}) {
            query(path + " pr", 1);
        }
        for (String path : new String[] {"v", "p", "zz", "nam", "mails", "'name'", "5", "true", "mail.",
                "mail.id", "mail.name", "mail.mail", "mail.vp", "mail.v.p", "mail..v", "name.v", "id.p", ".v",
                "mail,v", "mail:v", "mail v", "mail.'v'", "not", "pr", "eq"}) {
            wrong(path + " pr");
        }
    }

    private static void pathsInside() {
        CHECKS.about("within [ ] v or p alone, and no mail");
        query("mail[v pr]", 1);
        query("mail[p pr]", 1);
        query("mail[(v pr)]", 1);
        query("mail[not(p eq false)]", 1);
        for (String path : new String[] {"id", "version", "name", "age", "on", "mail", "mail.v", "mail.p",
                "v.v", ".v"}) {
            wrong("mail[" + path + " pr]");
            wrong("mail[v pr and " + path + " pr]");
            wrong("mail[(" + path + " pr)]");
            wrong("mail[not(" + path + " pr)]");
        }
        wrong("mail[mail[v pr]]");
        wrong("mail[v pr or mail[v pr]]");
        // Behind the ] it is as before it.
        query("mail[v pr] and name pr and mail.v pr and mail[p pr]", 1);
        wrong("mail[v pr] and v pr");
        wrong("(mail[v pr] and p pr)");
    }

    private static void presence() {
        CHECKS.about("PATH, the word pr");
        wrong("name pr 'a'");
        wrong("age pr 5");
        wrong("on pr true");
        wrong("pr name");
        wrong("name p r");
        wrong("name prs");
        wrong("name p");
    }

    private static void operators() {
        CHECKS.about("OPERATORS: the words eq, ne, co, sw, ew, gt, ge, lt, le");
        for (String each : OPERATORS) {
            boolean matches = !each.equals("ne") && !each.equals("gt") && !each.equals("lt");
            query("name " + each + " 'a'", matches ? 1 : 0);
            query("name " + each + "'a'", matches ? 1 : 0);
            wrong("name " + each);
            wrong("name " + each + " " + each + " 'a'");
            wrong(each + " 'a'");
            wrong("'a' " + each + " name");
        }
        for (String each : new String[] {"e", "eqq", "is", "in", "gte", "l", "=", "'eq'", "not eq", "e q", "==",
                "", "and"}) {
            wrong("name " + each + " 'a'");
        }
    }

    private static int kindOf(String path) {
        if (path.equals("id") || path.equals("version") || path.equals("age")) {
            return 0;
        }
        return path.equals("on") || path.endsWith("p") ? 1 : 2;
    }

    private static boolean stands(String operator, int kind) {
        if (operator.equals("eq") || operator.equals("ne")) {
            return true;
        }
        boolean ofStrings = operator.equals("co") || operator.equals("sw") || operator.equals("ew");
        return kind == 2 || kind == 0 && !ofStrings;
    }

    private static void kinds() {
        CHECKS.about("A value must be of the kind of its path; co, sw, ew stand with strings, "
            + "gt, ge, lt, le with numbers and strings alone; else SYNTAX");
        String[] values = {"7", "true", "'q'"};
        String[] paths = {"id", "version", "age", "on", "name", "mail", "mail.v", "mail.p", "mail[v", "mail[p"};
        for (String path : paths) {
            for (String operator : OPERATORS) {
                for (int kind = 0; kind < values.length; kind++) {
                    String close = path.contains("[") ? "]" : "";
                    begin();
                    boolean right = kindOf(path) == kind && stands(operator, kind);
                    // Without resources none matches, and a wrong text is as wrong.
                    CHECKS.queries(Checks.quoted(path + " " + operator + " " + values[kind] + close),
                        right ? 0 : PeopleStore.SYNTAX);
                }
            }
        }
    }

    private static void structuredValues() {
        CHECKS.about("a value that is no object or array");
        for (String path : new String[] {"id", "name", "on", "mail", "mail.v", "mail.p"}) {
            for (String value : new String[] {"{}", "[]", "['x']", "[5]", "{'v':'x'}",
                    "[{'v':'x','p':true}]"}) {
                wrong(path + " eq " + value);
                wrong(path + " ne " + value);
            }
        }
        for (String value : new String[] {"name", "a", "null", "(5)", "('a')", "- 5", "01", "not"}) {
            wrong("age eq " + value);
            wrong("name eq " + value);
        }
    }

    private static void lengthsOfStrings() {
        CHECKS.about("a string of any length");
        for (int many : new int[] {0, 1, 12, 13, 50, 110}) {
            query("name eq '" + "q".repeat(many) + "'", 0);
            query("name ne '" + "q".repeat(many) + "'", 1);
        }
        query("mail.v eq '" + "x".repeat(108) + "'", 0);
        begin("{'name':'abcdefghijkl','mail':[{'v':'abcdefghijkl'}]}");
        finds("name eq 'abcdefghijkl' and mail eq 'abcdefghijkl'", "1");
        finds("name eq 'abcdefghijklm' or mail eq 'abcdefghijklm'", "");
        finds("name co 'abcdefghijklm' or mail sw 'abcdefghijklm' or mail ew 'aabcdefghijkl'", "");
        finds("name lt 'abcdefghijklm' and mail lt 'abcdefghijklm'", "1");
        finds("name gt 'abcdefghijk' and mail gt 'abcdefghijk'", "1");
    }

    private static void depthOfRounds() {
        CHECKS.about("Pairs of ( ) and [ ], together, lie at most 6 deep in one another");
        for (int deep = 0; deep <= 8; deep++) {
            int want = deep <= 6 ? 1 : PeopleStore.SYNTAX;
            query("(".repeat(deep) + "id pr" + ")".repeat(deep), want);
            query("not(".repeat(deep) + "id pr" + ")".repeat(deep), deep % 2 == 1 ? Math.min(want, 0) : want);
            // Those beside one another are not in one another.
            String one = "(".repeat(deep) + "id pr" + ")".repeat(deep);
            query(one + " and " + one + " or " + one, want);
            query(one + " or (id pr)", want);
            query("(id pr) or " + one, want);
        }
        wrong("(".repeat(120));
    }

    private static void depthOfBoth() {
        CHECKS.about("Pairs of ( ) and [ ], together, lie at most 6 deep in one another: both count");
        for (int outside = 0; outside <= 7; outside++) {
            for (int inside = 0; inside <= 7; inside++) {
                int want = outside + 1 + inside <= 6 ? 1 : PeopleStore.SYNTAX;
                query("(".repeat(outside) + "mail[" + "(".repeat(inside) + "v pr" + ")".repeat(inside) + "]"
                    + ")".repeat(outside), want);
            }
        }
        query("((((((id pr)))))) and (((((mail[v pr]))))) and mail[(((((v pr)))))]", 1);
    }

    private static void depthOfTargets() {
        CHECKS.about("(that of a TARGET counts, too)");
        for (int deep = 0; deep <= 7; deep++) {
            String filter = "mail[" + "(".repeat(deep) + "v pr" + ")".repeat(deep) + "]";
            for (String behind : new String[] {"", ".p"}) {
                begin("{'name':'a','mail':[{'v':'x','p':true}]}");
                CHECKS.patches("-" + filter + behind, deep <= 5 ? 2 : PeopleStore.SYNTAX);
                CHECKS.due("the version", CHECKS.store().version(1), deep <= 5 ? 2 : 1);
            }
        }
    }

    private static void noValues() {
        CHECKS.about("pr matches if there is one; the others if one of the values does");
        begin("{'name':'a'}");
        for (String path : new String[] {"age", "on", "mail", "mail.v", "mail.p"}) {
            finds(path + " pr", "");
        }
        for (String operator : new String[] {"eq", "gt", "ge", "lt", "le"}) {
            finds("age " + operator + " 0", "");
            finds("mail " + operator + " ''", "");
        }
        finds("on eq true or on eq false or mail.p eq true or mail.p eq false", "");
        finds("mail co '' or mail sw '' or mail ew '' or mail.v co ''", "");
        finds("mail[v pr or not(v pr)]", "");
        finds("age ne 0 and on ne true and on ne false and mail ne '' and mail.p ne true and mail.p ne false",
            "1");
    }

    private static void oneOfMany() {
        CHECKS.about("A path has as many VALUES as there are (those of mail are the v of its items)");
        begin("{'name':'a','mail':[{'v':'k'},{'v':'m','p':false},{'v':'o','p':true},{'v':'q'}]}",
            "{'name':'b','mail':[{'v':'m'}]}", "{'name':'c','mail':[]}");
        for (String path : new String[] {"mail", "mail.v"}) {
            finds(path + " pr", "1 2");
            finds(path + " eq 'k'", "1");
            finds(path + " eq 'q'", "1");
            finds(path + " eq 'm'", "1 2");
            finds(path + " eq 'n'", "");
            finds(path + " gt 'm'", "1");
            finds(path + " gt 'q'", "");
            finds(path + " lt 'm'", "1");
            finds(path + " lt 'k'", "");
            finds(path + " le 'm'", "1 2");
        }
        finds("mail.p pr", "1");
        finds("mail.p eq true", "1");
        finds("mail.p eq false", "1");
    }

    private static void notEqual() {
        CHECKS.about("ne if eq does not match");
        begin("{'name':'a','age':5,'on':true,'mail':[{'v':'x','p':true},{'v':'y','p':false}]}",
            "{'name':'b','mail':[{'v':'y'}]}", "{'name':'c'}");
        finds("name ne 'A'", "2 3");
        finds("age ne 5", "2 3");
        finds("age ne 4", "1 2 3");
        finds("on ne true", "2 3");
        finds("on ne false", "1 2 3");
        finds("mail ne 'x'", "2 3");
        finds("mail ne 'y'", "3");
        finds("mail.p ne true", "2 3");
        finds("mail[v ne 'x']", "1 2");
        finds("mail[v ne 'y']", "1");
        finds("mail[p ne true]", "1 2");
        finds("not(age ne 5)", "1");
    }

    private static void numbersAround() {
        CHECKS.about("gt, ge, lt, le for numbers");
        for (int age : new int[] {0, 1, -1, 10, -10, 999999998, -999999998}) {
            begin("{'name':'a','age':" + age + "}");
            for (int d = -1; d <= 1; d++) {
                int asked = age + d;
                CHECKS.queries("age eq " + asked, d == 0 ? 1 : 0);
                CHECKS.queries("age ne " + asked, d != 0 ? 1 : 0);
                CHECKS.queries("age gt " + asked, d < 0 ? 1 : 0);
                CHECKS.queries("age ge " + asked, d <= 0 ? 1 : 0);
                CHECKS.queries("age lt " + asked, d > 0 ? 1 : 0);
                CHECKS.queries("age le " + asked, d >= 0 ? 1 : 0);
            }
        }
        begin("{'name':'a','age':-999999999}", "{'name':'b','age':999999999}");
        finds("age lt 999999999", "1");
        finds("age gt -999999999", "2");
        finds("age ge 999999999", "2");
        finds("age le -999999999", "1");
        finds("id gt 1", "2");
        finds("id lt 2", "1");
        finds("version ge 2", "");
        finds("version le 1", "1 2");
    }

    private static void around(String path, String own, String asked, int order) {
        begin("{'name':'" + own + "','mail':[{'v':'" + own + "'}]}");
        String[] operators = {"eq", "ne", "gt", "ge", "lt", "le"};
        boolean[] wants = {order == 0, order != 0, order > 0, order >= 0, order < 0, order <= 0};
        for (int i = 0; i < operators.length; i++) {
            CHECKS.queries(Checks.quoted(path + " " + operators[i] + " '" + asked + "'"), wants[i] ? 1 : 0);
        }
    }

    private static void stringsAround() {
        CHECKS.about("for strings by the numbers of their characters from the first on");
        for (String path : new String[] {"name", "mail", "mail.v"}) {
            around(path, "mm", "mm", 0);
            around(path, "mm", "ml", 1);
            around(path, "mm", "mn", -1);
            around(path, "mm", "lz", 1);
            around(path, "mm", "na", -1);
            around(path, "mm", "l", 1);
            around(path, "mm", "n", -1);
            around(path, "mm", "lzzz", 1);
            around(path, "mm", "naaa", -1);
            around(path, " ", "!", -1);
            around(path, "~", "}", 1);
            around(path, "9", "10", 1);
            around(path, "/", "0", -1);
            around(path, "\\'", "#", -1);
        }
    }

    private static void stringsThatBeginSo() {
        CHECKS.about("a string before those that begin with it");
        for (String path : new String[] {"name", "mail.v"}) {
            around(path, "m", "", 1);
            around(path, "m", "m ", -1);
            around(path, "m", "mm", -1);
            around(path, "mm", "m", 1);
            around(path, "m~", "m", 1);
            around(path, "m ", "m", 1);
            around(path, "m", "m" + " ".repeat(40), -1);
        }
    }

    private static void pieces(String own, String piece, boolean co, boolean sw, boolean ew) {
        begin("{'name':'" + own + "','mail':[{'v':'" + own + "'}]}");
        for (String path : new String[] {"name", "mail", "mail.v", "mail[v"}) {
            String rest = " '" + piece + "'" + (path.contains("[") ? "]" : "");
            CHECKS.queries(Checks.quoted(path + " co" + rest), co ? 1 : 0);
            CHECKS.queries(Checks.quoted(path + " sw" + rest), sw ? 1 : 0);
            CHECKS.queries(Checks.quoted(path + " ew" + rest), ew ? 1 : 0);
        }
    }

    private static void placesOfPieces() {
        CHECKS.about("co (contains), sw (starts with), ew (ends with)");
        pieces("abcab", "abcab", true, true, true);
        pieces("abcab", "ab", true, true, true);
        pieces("abcab", "abc", true, true, false);
        pieces("abcab", "cab", true, false, true);
        pieces("abcab", "bca", true, false, false);
        pieces("abcab", "c", true, false, false);
        pieces("abcab", "a", true, true, false);
        pieces("abcab", "b", true, false, true);
        pieces("abcab", "ac", false, false, false);
        pieces("abcab", "abcabc", false, false, false);
        pieces("abcab", "zabcab", false, false, false);
        pieces("abcab", "abd", false, false, false);
        pieces("abcab", "bb", false, false, false);
        pieces("aab", "ab", true, false, true);
        pieces("aaab", "aab", true, false, true);
    }

    private static void emptyStrings() {
        CHECKS.about("(An empty string is contained in all, and all start and end with it.)");
        pieces("a", "", true, true, true);
        pieces("abcdefghijkl", "", true, true, true);
        pieces(" ", "", true, true, true);
    }

    private static void namesAsSmall() {
        CHECKS.about("For name all of this is done as if capital letters were small");
        around("name", "AbZ", "aBz", 0);
        around("name", "B", "a", 1);
        around("name", "a", "B", -1);
        around("name", "Z", "a", 1);
        around("name", "Z", "[", 1);
        around("name", "a", "_", 1);
        around("name", "_", "A", -1);
        around("name", "^", "Z", -1);
        around("name", "{", "Z", 1);
        around("name", "[", "{", -1);
        begin("{'name':'AbcD'}", "{'name':'aBCd '}", "{'name':'x'}");
        finds("name co 'BC'", "1 2");
        finds("name co 'bc'", "1 2");
        finds("name sw 'ABCD'", "1 2");
        finds("name sw 'abcd'", "1 2");
        finds("name ew 'CD'", "1");
        finds("name ew 'cd'", "1");
        finds("name ew 'D '", "2");
        finds("name eq 'X'", "3");
        finds("name ne 'X'", "1 2");
    }

    private static void othersAsTheyAre() {
        CHECKS.about("For name (and so not for v)");
        around("mail", "AbZ", "aBz", -1);
        around("mail", "a", "B", 1);
        around("mail.v", "Z", "[", -1);
        around("mail.v", "a", "_", 1);
        around("mail.v", "Z", "_", -1);
        begin("{'name':'a','mail':[{'v':'AbcD'}]}");
        finds("mail co 'BC' or mail.v sw 'a' or mail ew 'd' or mail[v co 'BC' or v eq 'abcd']", "");
        finds("mail co 'bc' and mail.v sw 'A' and mail ew 'D' and mail[v co 'bc' and v eq 'AbcD']", "1");
    }

    private static void oneItem() {
        CHECKS.about("mail [ OR ] matches if there is an item of which OR does");
        begin("{'name':'a','mail':[{'v':'x'},{'v':'y','p':true}]}", "{'name':'b','mail':[{'v':'x','p':true}]}",
            "{'name':'c','mail':[{'v':'z','p':false}]}", "{'name':'d'}");
        finds("mail[v eq 'x' and p eq true]", "2");
        finds("mail eq 'x' and mail.p eq true", "1 2");
        finds("mail[v eq 'x'] and mail[p eq true]", "1 2");
        finds("mail[v eq 'x' or v eq 'z']", "1 2 3");
        finds("mail[p pr]", "1 2 3");
        finds("mail[not(p pr)]", "1");
        finds("not(mail[p pr])", "4");
        finds("not(mail[not(p pr)])", "2 3 4");
        finds("mail[v ne 'x' and p ne true]", "3");
        finds("mail[v pr]", "1 2 3");
        finds("mail[not(v eq 'q')]", "1 2 3");
    }
}
