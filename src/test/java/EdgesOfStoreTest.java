/** The edges that promises 1 to 3 name: a new object, put and create. */
public final class EdgesOfStoreTest {
    private static final Checks CHECKS = new Checks("EdgesOfStoreTest");
    private static final int FAR = Integer.MAX_VALUE;
    private static final int NEAR = Integer.MIN_VALUE;

    public static void main(String[] args) {
        noResources();
        emptyBuffer();
        emptyPage();
        numbersOfBytes();
        lowestBytes();
        badCounts();
        badCharacters();
        noRoom();
        usedByCreate();
        onlyAnObject();
        ids();
        refusedOnesHaveNoId();
        noneComesAgain();
        eight();
        orderOfErrors();
        refusedCreates();
        allCallsOfAnObject();
        CHECKS.end();
    }

    private static void noResources() {
        CHECKS.about("A new object: No resources");
        CHECKS.anew();
        CHECKS.due("resources()", CHECKS.store().resources(), 0);
        CHECKS.due("query of all", CHECKS.store().query(0, false, 1, 9), 0);
        for (int id : new int[] {-1, 0, 1, 2, 8, NEAR, FAR}) {
            CHECKS.due("version of " + id, CHECKS.store().version(id), PeopleStore.MISSING);
            CHECKS.due("length of " + id, CHECKS.store().length(id), PeopleStore.MISSING);
            CHECKS.due("letter of " + id, CHECKS.store().letter(id, 0), 0);
            CHECKS.removes(id, 0, PeopleStore.MISSING);
            CHECKS.replaces(id, 0, "{\"name\":\"a\"}", PeopleStore.MISSING);
            CHECKS.patches(id, 0, "+age:1", PeopleStore.MISSING);
        }
        CHECKS.creates("{\"name\":\"a\"}", 1);
    }

    private static void emptyBuffer() {
        CHECKS.about("A new object: an empty buffer");
        CHECKS.anew();
        CHECKS.due("create of nothing", CHECKS.store().create(), PeopleStore.SYNTAX);
        CHECKS.anew();
        CHECKS.bufferIsEmpty();
        CHECKS.anew();
        CHECKS.due("query of nothing", CHECKS.store().query(0, false, 1, 9), 0);
    }

    private static void emptyPage() {
        CHECKS.about("A new object: an empty page");
        CHECKS.anew();
        for (int k : new int[] {-1, 0, 1, 7, 8, NEAR, FAR}) {
            CHECKS.due("page(" + k + ")", CHECKS.store().page(k), PeopleStore.MISSING);
        }
        CHECKS.anew("{\"name\":\"a\"}");
        CHECKS.due("page(0) ahead of a query", CHECKS.store().page(0), PeopleStore.MISSING);
    }

    private static void numbersOfBytes() {
        CHECKS.about("Appends the n lowest bytes of word (n is 1 .. 4), the highest of them first");
        for (int n = 1; n <= 4; n++) {
            CHECKS.anew();
            CHECKS.say("{\"name\":\"");
            CHECKS.due("put of " + n, CHECKS.store().put(0x61626364, n), true);
            CHECKS.say("\"}");
            CHECKS.due("create", CHECKS.store().create(), 1);
            CHECKS.is(1, 1, "\"name\":\"" + "abcd".substring(4 - n) + "\"");
        }
    }

    private static void lowestBytes() {
        CHECKS.about("the n lowest bytes (those above them are not looked at)");
        int[] words = {0xffffff61, 0x00000061, 0x80000061, 0x7fffff61, 0x01020361};
        for (int word : words) {
            CHECKS.anew();
            CHECKS.say("{\"name\":\"");
            CHECKS.due("1 of " + word, CHECKS.store().put(word, 1), true);
            CHECKS.due("2 of " + word, CHECKS.store().put(word & 0xffff0000 | 0x6263, 2), true);
            CHECKS.due("3 of " + word, CHECKS.store().put(word & 0xff000000 | 0x646566, 3), true);
            CHECKS.say("\"}");
            CHECKS.due("create", CHECKS.store().create(), 1);
            CHECKS.is(1, 1, "\"name\":\"abcdef\"");
        }
    }

    /** A put that must be false, in the midst of a text that must stay as it is. */
    private static void refused(int word, int n) {
        CHECKS.anew();
        CHECKS.say("{\"name\":\"a");
        CHECKS.due("put(" + word + ", " + n + ")", CHECKS.store().put(word, n), false);
        CHECKS.say("b\"}");
        CHECKS.due("create", CHECKS.store().create(), 1);
        CHECKS.is(1, 1, "\"name\":\"ab\"");
    }

    private static void badCounts() {
        CHECKS.about("False, changing nothing, when n is not as said");
        for (int n : new int[] {0, 5, -1, 6, 8, 32, 33, 256, 257, 260, 65537, -4, -255, NEAR, NEAR + 1, FAR}) {
            refused(0x61616161, n);
        }
    }

    private static void badCharacters() {
        CHECKS.about("False, changing nothing, when one of them is no character as said");
        for (int c : new int[] {0, 9, 11, 31, 127, 128, 255}) {
            for (int n = 1; n <= 4; n++) {
                for (int place = 0; place < n; place++) {
                    refused(0x61616161 & ~(255 << 8 * place) | c << 8 * place, n);
                }
            }
        }
        refused(0, 4);
        refused(-1, 4);
        refused(NEAR, 4);
    }

    private static void noRoom() {
        CHECKS.about("False, changing nothing, when it would have more than 120");
        for (int free = 0; free <= 4; free++) {
            CHECKS.anew();
            CHECKS.say("{\"name\":\"a\"}" + " ".repeat(108 - free));
            for (int n = 4; n > free; n--) {
                CHECKS.due(n + " into " + free, CHECKS.store().put(0x7a7a7a7a, n), false);
            }
            if (free > 0) {
                CHECKS.due(free + " into " + free, CHECKS.store().put(0x20202020, free), true);
            }
            CHECKS.due("1 into 0", CHECKS.store().put(0x20, 1), false);
            CHECKS.due("create", CHECKS.store().create(), 1);
            CHECKS.due("a put afterwards", CHECKS.store().put(0x20, 1), true);
        }
    }

    private static void usedByCreate() {
        CHECKS.about("create: Uses the buffer (it is empty afterwards, always)");
        for (String text : new String[] {"", "{", "5", "{}", "{'name':''}", "{'name':'A'}", "{'name':'b'}",
                "\n", "#"}) {
            CHECKS.anew("{\"name\":\"a\"}");
            CHECKS.say(Checks.quoted(text));
            CHECKS.store().create();
            CHECKS.bufferIsEmpty();
        }
        fill(8);
        CHECKS.creates("{\"name\":\"n9\"}", PeopleStore.FULL);
        CHECKS.bufferIsEmpty();
        CHECKS.removes(1, 0, 0);
        CHECKS.creates("{\"name\":\"n9\"}", 9);
    }

    private static void onlyAnObject() {
        CHECKS.about("its text must be a value that is an object");
        for (String text : new String[] {"", " ", "5", "true", "'a'", "[]", "[{'name':'a'}]", "{'name':'a'} {}",
                "{'name':'a'},", "{'name':'a'}}", "{{'name':'a'}}", "({'name':'a'})", "name", "'name':'a'",
                "+:{'name':'a'}"}) {
            CHECKS.anew();
            CHECKS.creates(Checks.quoted(text), PeopleStore.SYNTAX);
            CHECKS.stands("");
        }
        CHECKS.creates("{\"name\":\"a\"}", 1);
    }

    /** A store of so many, n1, n2, .. */
    private static void fill(int many) {
        CHECKS.anew();
        for (int i = 1; i <= many; i++) {
            CHECKS.creates("{\"name\":\"n" + i + "\"}", i);
        }
    }

    private static void ids() {
        CHECKS.about("Answers its id: 1, 2, .. in the order in which resources were added");
        fill(8);
        CHECKS.finds("", "1 2 3 4 5 6 7 8");
        CHECKS.finds("name eq \"n1\"", "1");
        CHECKS.finds("name eq \"n8\"", "8");
        CHECKS.is(8, 1, "\"name\":\"n8\"");
    }

    private static void refusedOnesHaveNoId() {
        CHECKS.about("in the order in which resources were added (a refused one is not)");
        CHECKS.anew("{\"name\":\"a\"}");
        CHECKS.creates("{", PeopleStore.SYNTAX);
        CHECKS.creates("{}", PeopleStore.UNFIT);
        CHECKS.creates("{\"name\":\"A\"}", PeopleStore.UNIQUE);
        CHECKS.creates("{\"name\":\"b\"}", 2);
        fill(8);
        CHECKS.creates("{\"name\":\"c\"}", PeopleStore.FULL);
        CHECKS.removes(8, 0, 0);
        CHECKS.creates("{\"name\":\"c\"}", 9);
    }

    private static void noneComesAgain() {
        CHECKS.about("(none comes again)");
        CHECKS.anew();
        for (int id = 1; id <= 100; id++) {
            CHECKS.creates("{\"name\":\"a\"}", id);
            CHECKS.removes(id, 1, 0);
        }
        CHECKS.creates("{\"name\":\"a\"}", 101);
        CHECKS.due("length(101)", CHECKS.store().length(101), "{'id':101,'version':1,'name':'a'}".length());
        CHECKS.due("version(100)", CHECKS.store().version(100), PeopleStore.MISSING);
        fill(3);
        CHECKS.removes(3, 0, 0);
        CHECKS.creates("{\"name\":\"n3\"}", 4);
        CHECKS.removes(1, 0, 0);
        CHECKS.creates("{\"name\":\"n1\"}", 5);
        CHECKS.finds("", "2 4 5");
    }

    private static void eight() {
        CHECKS.about("FULL when 8 are there");
        fill(7);
        CHECKS.creates("{\"name\":\"a\"}", 8);
        CHECKS.creates("{\"name\":\"b\"}", PeopleStore.FULL);
        CHECKS.creates("{\"name\":\"b\"}", PeopleStore.FULL);
        CHECKS.due("resources()", CHECKS.store().resources(), 8);
        CHECKS.removes(3, 0, 0);
        CHECKS.creates("{\"name\":\"b\"}", 9);
        CHECKS.creates("{\"name\":\"c\"}", PeopleStore.FULL);
        CHECKS.removes(9, 0, 0);
        CHECKS.removes(1, 0, 0);
        CHECKS.creates("{\"name\":\"c\"}", 10);
        CHECKS.creates("{\"name\":\"d\"}", 11);
        CHECKS.creates("{\"name\":\"e\"}", PeopleStore.FULL);
        CHECKS.finds("", "2 4 5 6 7 8 10 11");
    }

    private static void orderOfErrors() {
        CHECKS.about("SYNTAX; UNFIT; UNIQUE; FULL when 8 are there; in this order");
        for (int many : new int[] {7, 8}) {
            fill(many);
            CHECKS.creates("{\"name\":\"n1\",\"zz\":5", PeopleStore.SYNTAX);
            CHECKS.creates("{\"zz\":5,}", PeopleStore.SYNTAX);
            CHECKS.creates("{\"name\":\"n1\"}}", PeopleStore.SYNTAX);
            CHECKS.creates("{\"name\":\"x\"", PeopleStore.SYNTAX);
            CHECKS.creates("{\"name\":\"n1\",\"zz\":5}", PeopleStore.UNFIT);
            CHECKS.creates("{\"zz\":5,\"name\":\"n1\"}", PeopleStore.UNFIT);
            CHECKS.creates("{\"name\":\"x\",\"on\":5}", PeopleStore.UNFIT);
            CHECKS.creates("{\"name\":\"N1\"}", PeopleStore.UNIQUE);
            CHECKS.creates("{\"name\":\"n7\"}", PeopleStore.UNIQUE);
        }
        CHECKS.creates("{\"name\":\"x\"}", PeopleStore.FULL);
    }

    private static void refusedCreates() {
        CHECKS.about("a refused create changes nothing but the buffer");
        CHECKS.anew("{\"name\":\"a\",\"age\":1}", "{\"name\":\"b\"}");
        CHECKS.finds("", 0, true, "2 1");
        CHECKS.creates("{\"name\":\"c\"", PeopleStore.SYNTAX);
        CHECKS.creates("{\"name\":\"c\",\"on\":1}", PeopleStore.UNFIT);
        CHECKS.creates("{\"name\":\"A\",\"age\":2}", PeopleStore.UNIQUE);
        CHECKS.stands("2 1", "{'id':1,'version':1,'name':'a','age':1}", "{'id':2,'version':1,'name':'b'}");
        fill(8);
        CHECKS.creates("{\"name\":\"n9\"}", PeopleStore.FULL);
        String[] all = new String[8];
        for (int i = 1; i <= 8; i++) {
            all[i - 1] = "{'id':" + i + ",'version':1,'name':'n" + i + "'}";
        }
        CHECKS.stands("", all);
    }

    private static void allCallsOfAnObject() {
        CHECKS.about("An object is used for at most 512 calls after it has been made");
        CHECKS.anew("{\"name\":\"a\"}");
        for (int i = 1; i <= 101; i++) {
            CHECKS.patches("+on:true", 2 * i);
            CHECKS.patches("-on", 2 * i + 1);
        }
        CHECKS.due("the 510th call", CHECKS.store().resources(), 1);
        CHECKS.due("the 511th call", CHECKS.store().length(1), "{'id':1,'version':203,'name':'a'}".length());
        CHECKS.due("the 512th call", CHECKS.store().version(1), 203);
        CHECKS.due("calls", CHECKS.calls(), 512);
    }
}
