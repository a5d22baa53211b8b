/** The edges that promises 9 to 12 name: resources, version, length and letter. */
public final class EdgesOfReadingTest {
    private static final Checks CHECKS = new Checks("EdgesOfReadingTest");
    private static final int FAR = Integer.MAX_VALUE;
    private static final int NEAR = Integer.MIN_VALUE;
    private static final int[] NOBODY = {0, -1, 3, 4, 257, NEAR, FAR};

    public static void main(String[] args) {
        howMany();
        versions();
        versionMissing();
        order();
        whatThereIsNot();
        mailWithoutItems();
        itemsWithVThenP();
        escapes();
        spacesInStrings();
        numbers();
        lengthMissing();
        letters();
        lettersOutside();
        lettersOfNobody();
        longest();
        readingChangesNothing();
        CHECKS.end();
    }

    private static void begin() {
        CHECKS.anew("{\"name\":\"a\"}", "{\"name\":\"b\",\"on\":true}");
    }

    /** It is written so, letter by letter, with nothing ahead of it and behind it. */
    private static void written(String text, String rest) {
        CHECKS.anew(Checks.quoted(text));
        String want = Checks.quoted("{'id':1,'version':1," + rest + "}");
        CHECKS.due("the length of " + text, CHECKS.store().length(1), want.length());
        CHECKS.due("what is written of " + text, CHECKS.written(1), want);
        CHECKS.due("a letter ahead", CHECKS.store().letter(1, -1), 0);
        CHECKS.due("a letter behind", CHECKS.store().letter(1, want.length()), 0);
    }

    private static void howMany() {
        CHECKS.about("How many resources there are");
        CHECKS.anew();
        CHECKS.due("resources()", CHECKS.store().resources(), 0);
        for (int i = 1; i <= 8; i++) {
            CHECKS.creates("{\"name\":\"n" + i + "\"}", i);
            CHECKS.due("resources()", CHECKS.store().resources(), i);
        }
        CHECKS.creates("{\"name\":\"x\"}", PeopleStore.FULL);
        CHECKS.creates("{\"name\":\"n1\"}", PeopleStore.UNIQUE);
        CHECKS.removes(9, 0, PeopleStore.MISSING);
        CHECKS.removes(8, 9, PeopleStore.VERSION);
        CHECKS.due("resources()", CHECKS.store().resources(), 8);
        for (int i = 8; i >= 1; i--) {
            CHECKS.removes(i, 0, 0);
            CHECKS.due("resources()", CHECKS.store().resources(), i - 1);
        }
        CHECKS.removes(1, 0, PeopleStore.MISSING);
        CHECKS.due("resources()", CHECKS.store().resources(), 0);
    }

    private static void versions() {
        CHECKS.about("The version of a resource");
        begin();
        CHECKS.due("version(1)", CHECKS.store().version(1), 1);
        CHECKS.patches(1, 0, "=age:1", 2);
        CHECKS.due("version(1)", CHECKS.store().version(1), 2);
        CHECKS.due("version(2)", CHECKS.store().version(2), 1);
    }

    private static void versionMissing() {
        CHECKS.about("version: MISSING when it is not there");
        begin();
        for (int id : NOBODY) {
            CHECKS.due("version(" + id + ")", CHECKS.store().version(id), PeopleStore.MISSING);
        }
        CHECKS.removes(1, 0, 0);
        CHECKS.due("version(1)", CHECKS.store().version(1), PeopleStore.MISSING);
        CHECKS.due("version(2)", CHECKS.store().version(2), 1);
    }

    private static void order() {
        CHECKS.about("\"id\", \"version\", \"name\", \"age\", \"on\", \"mail\" in this order");
        String rest = "'name':'a','age':5,'on':true,'mail':[{'v':'x','p':true}]";
        written("{" + rest + "}", rest);
        written("{'mail':[{'p':true,'v':'x'}],'on':true,'age':5,'name':'a'}", rest);
        written("{ 'ON' : TRUE , 'Name' : 'a' , 'MAIL' : [ { 'P' : True , 'V' : 'x' } ] , 'aGe' : 5 }", rest);
    }

    private static void whatThereIsNot() {
        CHECKS.about("what there is not left out");
        String[] rests = {"'name':'a'", "'name':'a','age':5", "'name':'a','on':true",
            "'name':'a','mail':[{'v':'x'}]", "'name':'a','age':5,'on':true",
            "'name':'a','age':5,'mail':[{'v':'x'}]", "'name':'a','on':false,'mail':[{'v':'x'}]",
            "'name':'a','age':0,'on':false,'mail':[{'v':'x','p':false}]"};
        for (String rest : rests) {
            written("{" + rest + "}", rest);
        }
    }

    private static void mailWithoutItems() {
        CHECKS.about("(mail without items, too)");
        written("{'name':'a','mail':[]}", "'name':'a'");
        CHECKS.patches("+mail:{\"v\":\"x\"}", 2);
        CHECKS.patches("-mail", 3);
        CHECKS.stands("", "{'id':1,'version':3,'name':'a'}");
        CHECKS.patches("+mail:{\"v\":\"x\"}", 4);
        CHECKS.patches("-mail[v eq \"x\"]", 5);
        CHECKS.stands("", "{'id':1,'version':5,'name':'a'}");
    }

    private static void itemsWithVThenP() {
        CHECKS.about("items with \"v\" and then \"p\", as {\"v\":\"x\",\"p\":true}");
        written("{'name':'a','mail':[{'p':true,'v':'x'}]}", "'name':'a','mail':[{'v':'x','p':true}]");
        written("{'name':'a','mail':[{'v':'x'},{'p':false,'v':'y'},{'v':'z','p':true},{'v':'w'}]}",
            "'name':'a','mail':[{'v':'x'},{'v':'y','p':false},{'v':'z','p':true},{'v':'w'}]");
    }

    private static void escapes() {
        CHECKS.about("in strings \\\" for \" and \\\\ for \\ , / itself");
        written("{'name':'\\''}", "'name':'\\''");
        written("{'name':'\\\\'}", "'name':'\\\\'");
        written("{'name':'\\/'}", "'name':'/'");
        written("{'name':'/'}", "'name':'/'");
        written("{'name':'\\\\\\'\\/\\\\\\\\/'}", "'name':'\\\\\\'/\\\\\\\\/'");
        written("{'name':'a','mail':[{'v':'\\'\\\\\\/'}]}", "'name':'a','mail':[{'v':'\\'\\\\/'}]");
    }

    private static void spacesInStrings() {
        CHECKS.about("without spaces (those in strings stay)");
        written("{ 'name' : ' a  b ' , 'mail' : [ { 'v' : ' ' } , { 'v' : '  ' } ] }",
            "'name':' a  b ','mail':[{'v':' '},{'v':'  '}]");
    }

    private static void numbers() {
        CHECKS.about("how many characters it has (numbers of any size)");
        for (String each : new String[] {"0", "9", "10", "99", "100", "-1", "-10", "99999999", "100000000",
                "999999999", "-999999999"}) {
            written("{'name':'a','age':" + each + "}", "'name':'a','age':" + each);
        }
        written("{'name':'a','age':-0}", "'name':'a','age':0");
    }

    private static void lengthMissing() {
        CHECKS.about("length: MISSING when it is not there");
        begin();
        for (int id : NOBODY) {
            CHECKS.due("length(" + id + ")", CHECKS.store().length(id), PeopleStore.MISSING);
        }
        CHECKS.removes(2, 0, 0);
        CHECKS.due("length(2)", CHECKS.store().length(2), PeopleStore.MISSING);
        CHECKS.due("length(1)", CHECKS.store().length(1), "{'id':1,'version':1,'name':'a'}".length());
    }

    private static void letters() {
        CHECKS.about("The k-th character (from 0 on) of that");
        begin();
        String one = Checks.quoted("{'id':1,'version':1,'name':'a'}");
        String two = Checks.quoted("{'id':2,'version':1,'name':'b','on':true}");
        for (int k = 0; k < one.length(); k++) {
            CHECKS.due("letter(1, " + k + ")", CHECKS.store().letter(1, k), (int) one.charAt(k));
            CHECKS.due("letter(2, " + k + ")", CHECKS.store().letter(2, k), (int) two.charAt(k));
        }
        CHECKS.due("the last of 2", CHECKS.store().letter(2, two.length() - 1), (int) '}');
    }

    private static void lettersOutside() {
        CHECKS.about("0 when there is none");
        begin();
        int length = CHECKS.store().length(1);
        CHECKS.due("the last", CHECKS.store().letter(1, length - 1), (int) '}');
        CHECKS.due("the first", CHECKS.store().letter(1, 0), (int) '{');
        for (int k : new int[] {-1, -2, length, length + 1, 1000, NEAR, FAR}) {
            CHECKS.due("letter(1, " + k + ")", CHECKS.store().letter(1, k), 0);
        }
        // The other one is longer.
        CHECKS.due("letter(2, " + length + ")", CHECKS.store().letter(2, length) != 0, true);
        CHECKS.due("letter(1, " + length + ")", CHECKS.store().letter(1, length), 0);
    }

    private static void lettersOfNobody() {
        CHECKS.about("(also of a resource that is not there)");
        begin();
        for (int id : NOBODY) {
            for (int k : new int[] {-1, 0, 1, NEAR, FAR}) {
                CHECKS.due("letter(" + id + ", " + k + ")", CHECKS.store().letter(id, k), 0);
            }
        }
        CHECKS.removes(2, 0, 0);
        CHECKS.due("letter(2, 0)", CHECKS.store().letter(2, 0), 0);
        CHECKS.due("letter(1, 0)", CHECKS.store().letter(1, 0), (int) '{');
    }

    private static void longest() {
        CHECKS.about("length and letter of the longest that can be");
        CHECKS.anew(Checks.quoted("{'name':'" + "\\'".repeat(12) + "','age':-999999999,'on':false}"));
        StringBuilder items = new StringBuilder();
        for (int i = 0; i < 4; i++) {
            String item = "{'v':'" + "\\\\".repeat(11) + i + "','p':false}";
            CHECKS.patches(Checks.quoted("+mail:" + item), i + 2);
            items.append(i == 0 ? "" : ",").append(item);
        }
        CHECKS.stands("", "{'id':1,'version':5,'name':'" + "\\'".repeat(12)
            + "','age':-999999999,'on':false,'mail':[" + items + "]}");
    }

    private static void readingChangesNothing() {
        CHECKS.about("resources, version, length, letter and page change nothing, the buffer neither");
        begin();
        CHECKS.finds("", 0, true, "2 1");
        CHECKS.say("{\"name\"");
        CHECKS.stands("2 1", "{'id':1,'version':1,'name':'a'}", "{'id':2,'version':1,'name':'b','on':true}");
        CHECKS.say(":\"c");
        for (int id : NOBODY) {
            CHECKS.store().version(id);
            CHECKS.store().length(id);
            CHECKS.store().letter(id, 0);
            CHECKS.store().page(id);
        }
        CHECKS.creates("\"}", 3);
        CHECKS.stands("2 1", "{'id':1,'version':1,'name':'a'}", "{'id':2,'version':1,'name':'b','on':true}",
            "{'id':3,'version':1,'name':'c'}");
    }
}
