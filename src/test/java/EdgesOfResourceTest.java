/** The edges that the document's terms name for resources and items, as create and replace make them. */
public final class EdgesOfResourceTest {
    private static final Checks CHECKS = new Checks("EdgesOfResourceTest");
    private static final String TWELVE = "abcdefghijkl";
    private static final String[] WRONG_FOR_STRINGS = {"5", "0", "true", "false", "[]", "{}", "['a']"};

    public static void main(String[] args) {
        readOnlyOnes();
        namesOfAttributes();
        lengthOfName();
        escapesInName();
        kindOfName();
        nameIsThere();
        capitalsInNames();
        age();
        on();
        howManyItems();
        kindOfMail();
        lengthOfV();
        kindOfV();
        capitalsInV();
        kindOfP();
        twoOfOneV();
        primaries();
        whatMayBeMissing();
        membersOfItems();
        wholeItems();
        CHECKS.end();
    }

    private static void made(String text, String rest) {
        CHECKS.anew();
        CHECKS.creates(Checks.quoted(text), 1);
        CHECKS.stands("", "{'id':1,'version':1," + rest + "}");
        CHECKS.anew("{\"name\":\"other one\",\"age\":77,\"on\":true,\"mail\":[{\"v\":\"o\",\"p\":true}]}");
        CHECKS.replaces(1, 1, Checks.quoted(text), 2);
        CHECKS.stands("", "{'id':1,'version':2," + rest + "}");
    }

    private static void unfit(String text) {
        CHECKS.anew();
        CHECKS.creates(Checks.quoted(text), PeopleStore.UNFIT);
        CHECKS.stands("");
        CHECKS.anew("{\"name\":\"o\",\"age\":7,\"on\":true,\"mail\":[{\"v\":\"o\",\"p\":true}]}");
        CHECKS.replaces(1, 1, Checks.quoted(text), PeopleStore.UNFIT);
        CHECKS.stands("", "{'id':1,'version':1,'name':'o','age':7,'on':true,'mail':[{'v':'o','p':true}]}");
    }

    private static void readOnlyOnes() {
        CHECKS.about("those named id and version are passed over, whatever their value");
        String[] values = {"0", "1", "7", "-1", "999999999", "'x'", "''", "'longer than twelve'", "true", "[]",
            "{}", "[[]]"};
        for (String each : values) {
            made("{'id':" + each + ",'name':'a'}", "'name':'a'");
            made("{'name':'a','version':" + each + "}", "'name':'a'");
        }
        unfit("{'id':1,'version':1}");
        made("{'iD':5,'name':'a','vErSiOn':5}", "'name':'a'");
    }

    private static void namesOfAttributes() {
        CHECKS.about("each member's name is that of an attribute");
        for (String each : new String[] {"", " ", "nam", "names", "name ", " name", "nam e", "ag", "ages", "o",
                "onn", "mai", "mails", "i", "ids", "versio", "versions", "v", "p", "mail.v", "mail.p", "zz"}) {
            unfit("{'name':'a','" + each + "':1}");
            unfit("{'" + each + "':'x','name':'a'}");
        }
        made("{'name':'a','on':true,'age':1,'mail':[]}", "'name':'a','age':1,'on':true");
    }

    private static void lengthOfName() {
        CHECKS.about("name, a string of 1 to 12 characters");
        unfit("{'name':''}");
        for (int many = 1; many <= 12; many++) {
            String name = TWELVE.substring(0, many);
            made("{'name':'" + name + "'}", "'name':'" + name + "'");
        }
        unfit("{'name':'" + TWELVE + "m'}");
        unfit("{'name':'" + TWELVE.repeat(8) + "'}");
        made("{'name':' '}", "'name':' '");
        made("{'name':'            '}", "'name':'            '");
        unfit("{'name':'             '}");
    }

    private static void escapesInName() {
        CHECKS.about("as they stand for themselves: \\\" is one");
        for (String each : new String[] {"\\'", "\\\\"}) {
            for (int many : new int[] {1, 6, 7, 11, 12}) {
                made("{'name':'" + each.repeat(many) + "'}", "'name':'" + each.repeat(many) + "'");
            }
            unfit("{'name':'" + each.repeat(13) + "'}");
            made("{'name':'abcdefghijk" + each + "'}", "'name':'abcdefghijk" + each + "'");
            unfit("{'name':'abcdefghijkl" + each + "'}");
        }
        made("{'name':'" + "\\/".repeat(12) + "'}", "'name':'" + "/".repeat(12) + "'");
        unfit("{'name':'" + "\\/".repeat(13) + "'}");
        made("{'name':'a','mail':[{'v':'" + "\\'".repeat(12) + "'}]}",
            "'name':'a','mail':[{'v':'" + "\\'".repeat(12) + "'}]");
        unfit("{'name':'a','mail':[{'v':'" + "\\'".repeat(13) + "'}]}");
    }

    private static void kindOfName() {
        CHECKS.about("name, a string");
        for (String each : WRONG_FOR_STRINGS) {
            unfit("{'name':" + each + "}");
        }
    }

    private static void nameIsThere() {
        CHECKS.about("name is there");
        unfit("{}");
        unfit("{'age':5}");
        unfit("{'age':5,'on':true,'mail':[{'v':'x'}]}");
        unfit("{'id':1}");
    }

    private static void capitalsInNames() {
        CHECKS.about("in which capital and small letters count as alike, and UNIQUE");
        String[][] alike = {{"a", "A"}, {"Z", "z"}, {"AbYz", "aByZ"}, {"a", "a"}, {"\\'k", "\\'K"}};
        for (String[] each : alike) {
            twoNames(each[0], each[1], true);
        }
        String[][] others = {{"a", "aa"}, {"aa", "A"}, {"[", "{"}, {"@", "`"}, {"]", "}"}, {"^", "~"},
            {"a", "a "}, {"a", " a"}, {"ab", "ac"}, {"ab", "bb"}, {"0", "P"}, {"_", "?"}};
        for (String[] each : others) {
            twoNames(each[0], each[1], false);
        }
    }

    private static void twoNames(String one, String other, boolean alike) {
        CHECKS.anew(Checks.quoted("{'name':'" + one + "'}"), "{\"name\":\"third\"}");
        String text = Checks.quoted("{'name':'" + other + "'}");
        CHECKS.replaces(2, 0, text, alike ? PeopleStore.UNIQUE : 2);
        CHECKS.patches(2, 0, Checks.quoted("=name:'" + other + "'"), alike ? PeopleStore.UNIQUE : 2);
        CHECKS.anew(Checks.quoted("{'name':'" + one + "'}"));
        CHECKS.creates(text, alike ? PeopleStore.UNIQUE : 2);
        CHECKS.due("resources", CHECKS.store().resources(), alike ? 1 : 2);
    }

    private static void age() {
        CHECKS.about("age, a number");
        for (String each : new String[] {"0", "1", "-1", "12", "999999999", "-999999999", "100000000"}) {
            made("{'name':'a','age':" + each + "}", "'name':'a','age':" + each);
        }
        for (String each : new String[] {"'5'", "''", "true", "false", "[]", "{}", "[5]"}) {
            unfit("{'name':'a','age':" + each + "}");
        }
    }

    private static void on() {
        CHECKS.about("on, true or false");
        made("{'name':'a','on':true}", "'name':'a','on':true");
        made("{'name':'a','on':false}", "'name':'a','on':false");
        for (String each : new String[] {"0", "1", "'true'", "''", "[]", "{}", "[true]"}) {
            unfit("{'name':'a','on':" + each + "}");
        }
    }

    private static String items(int many) {
        StringBuilder text = new StringBuilder();
        for (int i = 0; i < many; i++) {
            text.append(i == 0 ? "" : ",").append("{'v':'").append((char) ('a' + i)).append("'}");
        }
        return text.toString();
    }

    private static void howManyItems() {
        CHECKS.about("mail, 0 to 4 ITEMS; an array of at most 4 whole items' objects");
        made("{'name':'a','mail':[]}", "'name':'a'");
        for (int many = 1; many <= 4; many++) {
            made("{'name':'a','mail':[" + items(many) + "]}", "'name':'a','mail':[" + items(many) + "]");
        }
        unfit("{'name':'a','mail':[" + items(5) + "]}");
        unfit("{'name':'a','mail':[" + items(6) + "]}");
        // Five of which two are alike are five.
        unfit("{'name':'a','mail':[" + items(4) + ",{'v':'a'}]}");
    }

    private static void kindOfMail() {
        CHECKS.about("that of mail an array");
        for (String each : new String[] {"5", "true", "'x'", "{}", "{'v':'x'}", "{'v':'x','p':true}"}) {
            unfit("{'name':'a','mail':" + each + "}");
        }
        for (String each : new String[] {"5", "true", "'x'", "[]", "{}", "[1]", "{'v':'y'},5", "5,{'v':'y'}"}) {
            unfit("{'name':'a','mail':[" + each + "]}");
        }
    }

    private static void lengthOfV() {
        CHECKS.about("v, a string of 1 to 12 characters");
        unfit("{'name':'a','mail':[{'v':''}]}");
        for (int many : new int[] {1, 2, 11, 12}) {
            String v = TWELVE.substring(0, many);
            made("{'name':'a','mail':[{'v':'" + v + "'}]}", "'name':'a','mail':[{'v':'" + v + "'}]");
        }
        unfit("{'name':'a','mail':[{'v':'" + TWELVE + "m'}]}");
        unfit("{'name':'a','mail':[{'v':'x'},{'v':'" + TWELVE + "m'}]}");
    }

    private static void kindOfV() {
        CHECKS.about("v, a string");
        for (String each : new String[] {"5", "0", "true", "false"}) {
            unfit("{'name':'a','mail':[{'v':" + each + "}]}");
        }
    }

    private static void capitalsInV() {
        CHECKS.about("v ... (capital and small letters count)");
        made("{'name':'a','mail':[{'v':'x'},{'v':'X'}]}", "'name':'a','mail':[{'v':'x'},{'v':'X'}]");
        CHECKS.queries("mail eq \"X\"", 1);
        CHECKS.queries("mail[v eq \"X\" and v ne \"x\"]", 1);
        CHECKS.patches("-mail[v eq \"X\"]", 3);
        CHECKS.queries("mail eq \"X\"", 0);
    }

    private static void kindOfP() {
        CHECKS.about("p, true or false");
        made("{'name':'a','mail':[{'v':'x','p':true}]}", "'name':'a','mail':[{'v':'x','p':true}]");
        made("{'name':'a','mail':[{'v':'x','p':false}]}", "'name':'a','mail':[{'v':'x','p':false}]");
        for (String each : new String[] {"0", "1", "'true'", "''"}) {
            unfit("{'name':'a','mail':[{'v':'x','p':" + each + "}]}");
        }
    }

    private static void twoOfOneV() {
        CHECKS.about("No two items have the same v");
        unfit("{'name':'a','mail':[{'v':'x'},{'v':'x'}]}");
        unfit("{'name':'a','mail':[{'v':'x','p':true},{'v':'x','p':false}]}");
        unfit("{'name':'a','mail':[{'v':'x'},{'v':'y'},{'v':'x'}]}");
        unfit("{'name':'a','mail':[{'v':'x'},{'v':'y'},{'v':'z'},{'v':'x'}]}");
        unfit("{'name':'a','mail':[{'v':'w'},{'v':'y'},{'v':'z'},{'v':'z'}]}");
        unfit("{'name':'a','mail':[{'v':'/'},{'v':'\\/'}]}");
        made("{'name':'a','mail':[{'v':'x'},{'v':'xx'},{'v':'x '}]}",
            "'name':'a','mail':[{'v':'x'},{'v':'xx'},{'v':'x '}]");
    }

    private static void primaries() {
        CHECKS.about("at most one has p true");
        made("{'name':'a','mail':[{'v':'x','p':false},{'v':'y','p':false}]}",
            "'name':'a','mail':[{'v':'x','p':false},{'v':'y','p':false}]");
        made("{'name':'a','mail':[{'v':'x','p':false},{'v':'y','p':true},{'v':'z'}]}",
            "'name':'a','mail':[{'v':'x','p':false},{'v':'y','p':true},{'v':'z'}]");
        unfit("{'name':'a','mail':[{'v':'x','p':true},{'v':'y','p':true}]}");
        unfit("{'name':'a','mail':[{'v':'x','p':true},{'v':'y'},{'v':'z','p':false},{'v':'w','p':true}]}");
        unfit("{'name':'a','mail':[{'v':'x','p':true},{'v':'y','p':true},{'v':'z','p':true}]}");
    }

    private static void whatMayBeMissing() {
        CHECKS.about("There may be no age, no on, no p");
        made("{'name':'a'}", "'name':'a'");
        made("{'name':'a','on':false}", "'name':'a','on':false");
        made("{'name':'a','age':0}", "'name':'a','age':0");
        made("{'name':'a','mail':[{'v':'x'}]}", "'name':'a','mail':[{'v':'x'}]");
    }

    private static void membersOfItems() {
        CHECKS.about("An ITEM'S OBJECT has members v and p alone");
        for (String each : new String[] {"", "vv", "pp", "v ", "id", "version", "name", "mail", "age", "on"}) {
            unfit("{'name':'a','mail':[{'v':'x','" + each + "':1}]}");
            unfit("{'name':'a','mail':[{'" + each + "':true,'v':'x'}]}");
        }
        made("{'name':'a','mail':[{'P':true,'V':'x'}]}", "'name':'a','mail':[{'v':'x','p':true}]");
    }

    private static void wholeItems() {
        CHECKS.about("it is WHOLE if it has v");
        unfit("{'name':'a','mail':[{}]}");
        unfit("{'name':'a','mail':[{'p':true}]}");
        unfit("{'name':'a','mail':[{'p':false}]}");
        unfit("{'name':'a','mail':[{'v':'x'},{}]}");
        unfit("{'name':'a','mail':[{},{'v':'x'}]}");
    }
}
