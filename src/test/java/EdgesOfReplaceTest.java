/** The edges that promises 4 and 6 name: replace and remove. */
public final class EdgesOfReplaceTest {
    private static final Checks CHECKS = new Checks("EdgesOfReplaceTest");
    private static final String ANN = "{'name':'Ann','age':5,'on':true,'mail':[{'v':'x','p':true}]}";
    private static final String ANN_IS =
        "{'id':1,'version':2,'name':'Ann','age':5,'on':true,'mail':[{'v':'x','p':true}]}";
    private static final String BOB_IS = "{'id':2,'version':1,'name':'Bob'}";
    private static final int FAR = Integer.MAX_VALUE;
    private static final int NEAR = Integer.MIN_VALUE;

    public static void main(String[] args) {
        used();
        becomesWholly();
        ownId();
        missing();
        otherVersion();
        anyVersion();
        syntax();
        unfit();
        unique();
        ownName();
        orderOfErrors();
        whenFull();
        removed();
        removedMissing();
        removedVersion();
        removedLeavesTheBuffer();
        removedFreesTheName();
        CHECKS.end();
    }

    /** Ann of version 2, Bob of version 1, and a page with both. */
    private static void begin() {
        CHECKS.anew(Checks.quoted("{'name':'Ann','age':5,'on':true}"), "{\"name\":\"Bob\"}");
        CHECKS.patches(Checks.quoted("+mail:{'v':'x','p':true}"), 2);
        CHECKS.finds("", 0, true, "2 1");
    }

    private static void refused(int id, int version, String text, int error) {
        begin();
        CHECKS.replaces(id, version, Checks.quoted(text), error);
        CHECKS.stands("2 1", ANN_IS, BOB_IS);
        CHECKS.bufferIsEmpty();
    }

    private static void used() {
        CHECKS.about("replace: Uses the buffer likewise (empty afterwards, also with MISSING and VERSION)");
        begin();
        CHECKS.replaces(1, 2, "{\"name\":\"c\"}", 3);
        CHECKS.bufferIsEmpty();
        CHECKS.replaces(1, 3, "{\"name\":\"c\"}", 3);
        CHECKS.bufferIsEmpty();
        refused(3, 0, "{'name':'c'}", PeopleStore.MISSING);
        refused(3, 0, "{'name':'c'", PeopleStore.MISSING);
        refused(1, 1, "{'name':'c'}", PeopleStore.VERSION);
        refused(1, 1, "{'name':'c'", PeopleStore.VERSION);
    }

    private static void becomesWholly() {
        CHECKS.about("the resource becomes one made from the object");
        begin();
        CHECKS.replaces(1, 0, "{\"name\":\"c\"}", 3);
        CHECKS.stands("2 1", "{'id':1,'version':3,'name':'c'}", BOB_IS);
        CHECKS.replaces(1, 0, Checks.quoted(ANN), 4);
        CHECKS.is(1, 4, Checks.quoted("'name':'Ann','age':5,'on':true,'mail':[{'v':'x','p':true}]"));
    }

    private static void ownId() {
        CHECKS.about("with its id");
        begin();
        CHECKS.replaces(2, 0, "{\"id\":1,\"name\":\"c\",\"version\":7}", 2);
        CHECKS.stands("2 1", ANN_IS, "{'id':2,'version':2,'name':'c'}");
        CHECKS.creates("{\"name\":\"d\"}", 3);
    }

    private static void missing() {
        CHECKS.about("replace: MISSING");
        for (int id : new int[] {0, -1, 3, 4, NEAR, FAR}) {
            refused(id, 0, "{'name':'c'}", PeopleStore.MISSING);
        }
        begin();
        CHECKS.removes(2, 0, 0);
        CHECKS.replaces(2, 1, "{\"name\":\"Bob\"}", PeopleStore.MISSING);
        CHECKS.stands("2 1", ANN_IS);
    }

    private static void otherVersion() {
        CHECKS.about("VERSION when version is neither 0 nor the resource's");
        for (int version : new int[] {1, 3, -1, -2, 4, 258, NEAR, FAR}) {
            refused(1, version, "{'name':'c'}", PeopleStore.VERSION);
        }
        refused(2, 2, "{'name':'c'}", PeopleStore.VERSION);
    }

    private static void anyVersion() {
        CHECKS.about("version is 0 or the resource's");
        begin();
        CHECKS.replaces(1, 0, "{\"name\":\"c\"}", 3);
        CHECKS.replaces(1, 3, "{\"name\":\"d\"}", 4);
        CHECKS.replaces(1, 3, "{\"name\":\"e\"}", PeopleStore.VERSION);
        CHECKS.replaces(1, 4, "{\"name\":\"d\"}", 4);
        CHECKS.replaces(1, 4, "{\"name\":\"e\"}", 5);
        CHECKS.stands("2 1", "{'id':1,'version':5,'name':'e'}", BOB_IS);
    }

    private static void syntax() {
        CHECKS.about("replace: SYNTAX");
        for (String text : new String[] {"", " ", "5", "[]", "'a'", "true", "{'name':'c'", "{'name':'c'} x",
                "{'name':'c','name':'c'}", "\n{'name':'c'}", "[{'name':'c'}]", "=name:'c'"}) {
            refused(1, 0, text, PeopleStore.SYNTAX);
            refused(1, 2, text, PeopleStore.SYNTAX);
        }
    }

    private static void unfit() {
        CHECKS.about("replace: UNFIT");
        for (String text : new String[] {"{}", "{'age':5}", "{'name':''}", "{'name':'abcdefghijklm'}",
                "{'name':'c','zz':1}", "{'name':'c','mail':[{'v':'y'},{'v':'y'}]}", "{'name':'c','on':0}",
                "{'name':'c','mail':{'v':'x'}}"}) {
            refused(1, 0, text, PeopleStore.UNFIT);
            refused(1, 2, text, PeopleStore.UNFIT);
        }
    }

    private static void unique() {
        CHECKS.about("replace: UNIQUE");
        refused(1, 0, "{'name':'Bob'}", PeopleStore.UNIQUE);
        refused(1, 2, "{'name':'bOB','age':1}", PeopleStore.UNIQUE);
        refused(2, 1, "{'name':'ANN'}", PeopleStore.UNIQUE);
        begin();
        CHECKS.replaces(2, 0, "{\"name\":\"Ann \"}", 2);
    }

    private static void ownName() {
        CHECKS.about("UNIQUE: Another resource has this name (not itself)");
        begin();
        CHECKS.replaces(1, 0, "{\"name\":\"Ann\"}", 3);
        CHECKS.replaces(1, 0, "{\"name\":\"aNN\"}", 4);
        CHECKS.replaces(2, 0, "{\"name\":\"BOB\"}", 2);
        CHECKS.replaces(2, 0, "{\"name\":\"Cy\"}", 3);
        CHECKS.replaces(1, 0, "{\"name\":\"bob\"}", 5);
        CHECKS.replaces(2, 0, "{\"name\":\"ann\"}", 4);
    }

    private static void orderOfErrors() {
        CHECKS.about("MISSING; VERSION; SYNTAX; UNFIT; UNIQUE; in this order");
        refused(3, 9, "{", PeopleStore.MISSING);
        refused(3, 9, "{}", PeopleStore.MISSING);
        refused(3, 9, "{'name':'Bob'}", PeopleStore.MISSING);
        refused(1, 9, "{", PeopleStore.VERSION);
        refused(1, 9, "{}", PeopleStore.VERSION);
        refused(1, 9, "{'name':'Bob'}", PeopleStore.VERSION);
        refused(1, 2, "{'zz':1,}", PeopleStore.SYNTAX);
        refused(1, 2, "{'name':'Bob'}}", PeopleStore.SYNTAX);
        refused(1, 2, "{'name':'Bob','zz':1}", PeopleStore.UNFIT);
        refused(1, 2, "{'zz':1,'name':'Bob'}", PeopleStore.UNFIT);
        refused(1, 2, "{'name':'Bob'}", PeopleStore.UNIQUE);
    }

    private static void whenFull() {
        CHECKS.about("replace: no FULL, for none is added");
        CHECKS.anew();
        for (int i = 1; i <= 8; i++) {
            CHECKS.creates("{\"name\":\"n" + i + "\"}", i);
        }
        CHECKS.replaces(8, 1, "{\"name\":\"x\"}", 2);
        CHECKS.replaces(1, 1, "{\"name\":\"n8\"}", 2);
        CHECKS.due("resources", CHECKS.store().resources(), 8);
    }

    private static void removed() {
        CHECKS.about("remove: The resource is there no more; answers 0");
        begin();
        CHECKS.removes(1, 0, 0);
        CHECKS.due("version", CHECKS.store().version(1), PeopleStore.MISSING);
        CHECKS.due("length", CHECKS.store().length(1), PeopleStore.MISSING);
        CHECKS.due("letter", CHECKS.store().letter(1, 0), 0);
        CHECKS.replaces(1, 0, Checks.quoted(ANN), PeopleStore.MISSING);
        CHECKS.patches(1, 0, "-age", PeopleStore.MISSING);
        CHECKS.stands("2 1", BOB_IS);
        CHECKS.finds("", "2");
        CHECKS.removes(2, 1, 0);
        CHECKS.stands("2");
        CHECKS.finds("", "");
    }

    private static void removedMissing() {
        CHECKS.about("remove: MISSING");
        begin();
        for (int id : new int[] {0, -1, 3, NEAR, FAR}) {
            CHECKS.removes(id, 0, PeopleStore.MISSING);
            CHECKS.removes(id, 7, PeopleStore.MISSING);
        }
        CHECKS.stands("2 1", ANN_IS, BOB_IS);
        CHECKS.removes(2, 0, 0);
        CHECKS.removes(2, 0, PeopleStore.MISSING);
        CHECKS.removes(2, 1, PeopleStore.MISSING);
        CHECKS.removes(2, 2, PeopleStore.MISSING);
        CHECKS.due("resources", CHECKS.store().resources(), 1);
    }

    private static void removedVersion() {
        CHECKS.about("remove: VERSION as with replace");
        begin();
        for (int version : new int[] {1, 3, -1, -2, NEAR, FAR}) {
            CHECKS.removes(1, version, PeopleStore.VERSION);
        }
        CHECKS.removes(2, 2, PeopleStore.VERSION);
        CHECKS.stands("2 1", ANN_IS, BOB_IS);
        CHECKS.removes(1, 2, 0);
        CHECKS.removes(2, 1, 0);
    }

    private static void removedLeavesTheBuffer() {
        CHECKS.about("remove: (The buffer stays.)");
        begin();
        CHECKS.say("{\"name\"");
        CHECKS.removes(7, 0, PeopleStore.MISSING);
        CHECKS.say(":\"");
        CHECKS.removes(1, 7, PeopleStore.VERSION);
        CHECKS.say("Ann");
        CHECKS.removes(1, 2, 0);
        CHECKS.creates("\"}", 3);
        CHECKS.stands("2 1", BOB_IS, "{'id':3,'version':1,'name':'Ann'}");
    }

    private static void removedFreesTheName() {
        CHECKS.about("UNIQUE: no two resources have the same (of those that are there)");
        begin();
        CHECKS.replaces(2, 0, "{\"name\":\"ann\"}", PeopleStore.UNIQUE);
        CHECKS.removes(1, 0, 0);
        CHECKS.replaces(2, 0, "{\"name\":\"ann\"}", 2);
        CHECKS.creates("{\"name\":\"Bob\"}", 3);
    }
}
