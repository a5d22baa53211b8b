/** The edges that promises 7 and 8 name: query and page. */
public final class EdgesOfQueryTest {
    private static final Checks CHECKS = new Checks("EdgesOfQueryTest");
    private static final int FAR = Integer.MAX_VALUE;
    private static final int NEAR = Integer.MIN_VALUE;

    public static void main(String[] args) {
        used();
        nothingButSpaces();
        noResources();
        byId();
        byName();
        byAge();
        byOn();
        byMail();
        withoutAValue();
        alike();
        firstOfThePage();
        startBelowOne();
        startBehindTheLast();
        atMostCount();
        countBelowZero();
        answersAllThatMatch();
        sorts();
        syntaxFirst();
        pageStaysWithErrors();
        pageFromZeroOn();
        pageBelowAndAbove();
        pageOfThoseGone();
        pageStaysWithOtherCalls();
        CHECKS.end();
    }

    private static void begin(String... people) {
        CHECKS.anew();
        for (int i = 0; i < people.length; i++) {
            CHECKS.creates(Checks.quoted(people[i]), i + 1);
        }
    }

    private static void fill(int many) {
        CHECKS.anew();
        for (int i = 1; i <= many; i++) {
            CHECKS.creates("{\"name\":\"n" + i + "\"}", i);
        }
    }

    private static void up(int sort, String want) {
        CHECKS.finds("", sort, false, want);
    }

    private static void down(int sort, String want) {
        CHECKS.finds("", sort, true, want);
    }

    private static void slice(int start, int count, int matches, String want) {
        CHECKS.due("query(0, false, " + start + ", " + count + ")",
            CHECKS.store().query(0, false, start, count), matches);
        CHECKS.due("the page from " + start + ", " + count, CHECKS.page(), want);
    }

    private static void used() {
        CHECKS.about("query: Uses the buffer");
        fill(2);
        CHECKS.queries("id eq 1", 1);
        CHECKS.bufferIsEmpty();
        CHECKS.queries("id eq", PeopleStore.SYNTAX);
        CHECKS.bufferIsEmpty();
        CHECKS.say("id eq 1");
        CHECKS.due("query by 5", CHECKS.store().query(5, false, 1, 9), PeopleStore.UNFIT);
        CHECKS.bufferIsEmpty();
    }

    private static void nothingButSpaces() {
        CHECKS.about("its text must be an OR, or nothing but spaces (all match)");
        fill(3);
        for (int many : new int[] {0, 1, 2, 119, 120}) {
            CHECKS.queries(" ".repeat(many), 3);
            CHECKS.due("the page", CHECKS.page(), "1 2 3");
        }
        CHECKS.queries("\n", PeopleStore.SYNTAX);
        CHECKS.queries("()", PeopleStore.SYNTAX);
        CHECKS.queries("{}", PeopleStore.SYNTAX);
        CHECKS.queries("\"\"", PeopleStore.SYNTAX);
        CHECKS.queries("true", PeopleStore.SYNTAX);
        CHECKS.queries(".", PeopleStore.SYNTAX);
    }

    private static void noResources() {
        CHECKS.about("query: The resources that match (of none, none)");
        CHECKS.anew();
        for (int sort = 0; sort <= 4; sort++) {
            up(sort, "");
            down(sort, "");
        }
        CHECKS.queries("name", PeopleStore.SYNTAX);
        CHECKS.due("query by 5", CHECKS.store().query(5, false, 1, 9), PeopleStore.UNFIT);
    }

    private static void byId() {
        CHECKS.about("by sort: 0 id");
        fill(8);
        up(0, "1 2 3 4 5 6 7 8");
        down(0, "8 7 6 5 4 3 2 1");
        CHECKS.removes(1, 0, 0);
        CHECKS.removes(4, 0, 0);
        CHECKS.creates("{\"name\":\"a\"}", 9);
        CHECKS.creates("{\"name\":\"b\"}", 10);
        up(0, "2 3 5 6 7 8 9 10");
        down(0, "10 9 8 7 6 5 3 2");
        CHECKS.patches(5, 0, "=age:1", 2);
        CHECKS.replaces(3, 0, "{\"name\":\"c\"}", 2);
        up(0, "2 3 5 6 7 8 9 10");
    }

    private static void byName() {
        CHECKS.about("1 name (as if capital letters were small, as in filters)");
        begin("{'name':'b'}", "{'name':'A'}", "{'name':'C'}", "{'name':'_'}", "{'name':'aa'}", "{'name':'['}",
            "{'name':'Z'}", "{'name':'{'}");
        up(1, "6 4 2 5 1 3 7 8");
        down(1, "8 7 3 1 5 2 4 6");
        begin("{'name':'ab'}", "{'name':'abc'}", "{'name':'a'}", "{'name':'AB '}", "{'name':'aBB'}",
            "{'name':'9'}", "{'name':'10'}");
        up(1, "7 6 3 1 4 5 2");
        down(1, "2 5 4 1 3 6 7");
    }

    private static void byAge() {
        CHECKS.about("2 age");
        begin("{'name':'a','age':0}", "{'name':'b','age':-1}", "{'name':'c','age':1}",
            "{'name':'d','age':999999999}", "{'name':'e','age':-999999999}", "{'name':'f','age':10}",
            "{'name':'g','age':9}");
        up(2, "5 2 1 3 7 6 4");
        down(2, "4 6 7 3 1 2 5");
    }

    private static void byOn() {
        CHECKS.about("3 on (false first)");
        begin("{'name':'a','on':true}", "{'name':'b','on':false}", "{'name':'c','on':true}",
            "{'name':'d','on':false}");
        up(3, "2 4 1 3");
        down(3, "1 3 2 4");
    }

    private static void byMail() {
        CHECKS.about("4 mail: the v of the item with p true, else of the first one");
        begin("{'name':'a','mail':[{'v':'m'}]}", "{'name':'b','mail':[{'v':'a'},{'v':'z','p':true}]}",
            "{'name':'c','mail':[{'v':'n','p':false},{'v':'a','p':false},{'v':'b'}]}",
            "{'name':'d','mail':[{'v':'M','p':true},{'v':'z'}]}", "{'name':'e','mail':[{'v':'ma'},{'v':'a'}]}",
            "{'name':'f','mail':[{'v':'z'},{'v':'y'},{'v':'x'},{'v':'b','p':true}]}");
        up(4, "4 6 1 5 3 2");
        down(4, "2 3 5 1 6 4");
    }

    private static void withoutAValue() {
        CHECKS.about("Up: those that have such a value, by it, then those that have none; down: the other way round");
        begin("{'name':'a'}", "{'name':'b','age':-5,'on':false,'mail':[{'v':' '}]}", "{'name':'c','mail':[]}",
            "{'name':'d','age':0,'on':true,'mail':[{'v':'~'}]}");
        for (int sort = 2; sort <= 4; sort++) {
            up(sort, "2 4 1 3");
            down(sort, "1 3 4 2");
        }
        begin("{'name':'a'}", "{'name':'b'}");
        for (int sort = 2; sort <= 4; sort++) {
            up(sort, "1 2");
            down(sort, "1 2");
        }
    }

    private static void alike() {
        CHECKS.about("those alike by id, up, in any case");
        begin("{'name':'a','age':7,'on':true,'mail':[{'v':'x'}]}",
            "{'name':'b','age':1,'on':false,'mail':[{'v':'a'}]}",
            "{'name':'c','age':7,'on':true,'mail':[{'v':'y'},{'v':'x','p':true}]}",
            "{'name':'d','age':7,'on':true,'mail':[{'v':'x','p':false}]}");
        for (int sort = 2; sort <= 4; sort++) {
            up(sort, "2 1 3 4");
            down(sort, "1 3 4 2");
        }
        CHECKS.removes(1, 0, 0);
        CHECKS.creates(Checks.quoted("{'name':'a','age':7,'on':true,'mail':[{'v':'x'}]}"), 5);
        for (int sort = 2; sort <= 4; sort++) {
            up(sort, "2 3 4 5");
            down(sort, "3 4 5 2");
        }
    }

    private static void firstOfThePage() {
        CHECKS.about("The PAGE is those from the start-th on (1 is the first)");
        fill(4);
        slice(1, 9, 4, "1 2 3 4");
        slice(2, 9, 4, "2 3 4");
        slice(3, 9, 4, "3 4");
        slice(4, 9, 4, "4");
        CHECKS.due("down", CHECKS.store().query(0, true, 3, 9), 4);
        CHECKS.due("the page", CHECKS.page(), "2 1");
    }

    private static void startBelowOne() {
        CHECKS.about("a start below 1 counts as 1");
        fill(3);
        for (int start : new int[] {1, 0, -1, -2, -9, NEAR, NEAR + 1}) {
            slice(start, 2, 3, "1 2");
            slice(start, FAR, 3, "1 2 3");
        }
    }

    private static void startBehindTheLast() {
        CHECKS.about("those from the start-th on (behind the last there are none)");
        fill(3);
        slice(3, 1, 3, "3");
        for (int start : new int[] {4, 5, 9, 100, FAR - 1, FAR}) {
            slice(start, 9, 3, "");
            slice(start, FAR, 3, "");
        }
    }

    private static void atMostCount() {
        CHECKS.about("at most count of them");
        fill(8);
        slice(1, 0, 8, "");
        slice(1, 1, 8, "1");
        slice(1, 7, 8, "1 2 3 4 5 6 7");
        slice(1, 8, 8, "1 2 3 4 5 6 7 8");
        slice(1, 9, 8, "1 2 3 4 5 6 7 8");
        slice(1, FAR, 8, "1 2 3 4 5 6 7 8");
        slice(7, 1, 8, "7");
        slice(7, 2, 8, "7 8");
        slice(7, 3, 8, "7 8");
        slice(8, FAR, 8, "8");
        slice(2, FAR, 8, "2 3 4 5 6 7 8");
    }

    private static void countBelowZero() {
        CHECKS.about("(below 0 counts as 0)");
        fill(2);
        for (int count : new int[] {0, -1, -2, NEAR, NEAR + 1}) {
            slice(1, 9, 2, "1 2");
            slice(1, count, 2, "");
            slice(2, count, 2, "");
            slice(NEAR, count, 2, "");
            slice(FAR, count, 2, "");
        }
    }

    private static void answersAllThatMatch() {
        CHECKS.about("query: Answers how many match");
        fill(5);
        for (int id = 0; id <= 6; id++) {
            CHECKS.say("id le " + id);
            CHECKS.due("query of id le " + id, CHECKS.store().query(0, true, 2, 1), Math.min(id, 5));
            CHECKS.due("the page", CHECKS.page(), id < 2 ? "" : "" + (Math.min(id, 5) - 1));
        }
    }

    private static void sorts() {
        CHECKS.about("UNFIT when sort is none of these");
        fill(2);
        for (int sort = 0; sort <= 4; sort++) {
            up(sort, "1 2");
        }
        for (int sort : new int[] {-1, 5, 6, -2, 256, NEAR, FAR}) {
            CHECKS.due("query by " + sort, CHECKS.store().query(sort, false, 1, 9), PeopleStore.UNFIT);
            CHECKS.due("query by " + sort, CHECKS.store().query(sort, true, 0, -1), PeopleStore.UNFIT);
        }
    }

    private static void syntaxFirst() {
        CHECKS.about("SYNTAX; UNFIT; in this order");
        fill(1);
        for (String text : new String[] {"name", "name eq 5", "\n", "(id pr", "id pr id pr", "#"}) {
            for (int sort : new int[] {-1, 5, 0}) {
                CHECKS.say(text);
                CHECKS.due("query of " + text + " by " + sort, CHECKS.store().query(sort, false, 1, 9),
                    PeopleStore.SYNTAX);
            }
        }
    }

    private static void pageStaysWithErrors() {
        CHECKS.about("(the page stays with both)");
        fill(3);
        CHECKS.finds("id ge 2", 0, true, "3 2");
        CHECKS.queries("id", PeopleStore.SYNTAX);
        CHECKS.due("the page", CHECKS.page(), "3 2");
        CHECKS.say("id eq 1");
        CHECKS.due("query by 5", CHECKS.store().query(5, false, 1, 9), PeopleStore.UNFIT);
        CHECKS.due("the page", CHECKS.page(), "3 2");
        CHECKS.due("query by -1", CHECKS.store().query(-1, false, 1, 0), PeopleStore.UNFIT);
        CHECKS.stands("3 2", "{'id':1,'version':1,'name':'n1'}", "{'id':2,'version':1,'name':'n2'}",
            "{'id':3,'version':1,'name':'n3'}");
        CHECKS.finds("id gt 9", "");
    }

    private static void pageFromZeroOn() {
        CHECKS.about("The id of the k-th resource (from 0 on) of the page");
        fill(8);
        down(0, "8 7 6 5 4 3 2 1");
        for (int k = 0; k < 8; k++) {
            CHECKS.due("page(" + k + ")", CHECKS.store().page(k), 8 - k);
        }
        CHECKS.due("page(8)", CHECKS.store().page(8), PeopleStore.MISSING);
    }

    private static void pageBelowAndAbove() {
        CHECKS.about("MISSING when there is none");
        fill(8);
        up(0, "1 2 3 4 5 6 7 8");
        slice(3, 2, 8, "3 4");
        CHECKS.due("page(0)", CHECKS.store().page(0), 3);
        CHECKS.due("page(1)", CHECKS.store().page(1), 4);
        for (int k : new int[] {-1, -2, 2, 3, 7, 8, 9, NEAR, FAR}) {
            CHECKS.due("page(" + k + ")", CHECKS.store().page(k), PeopleStore.MISSING);
        }
        slice(9, 2, 8, "");
        CHECKS.due("page(0)", CHECKS.store().page(0), PeopleStore.MISSING);
    }

    private static void pageOfThoseGone() {
        CHECKS.about("(Also if it is not there any more.)");
        fill(3);
        up(0, "1 2 3");
        CHECKS.removes(1, 0, 0);
        CHECKS.due("the page", CHECKS.page(), "1 2 3");
        CHECKS.removes(3, 0, 0);
        CHECKS.removes(2, 0, 0);
        CHECKS.due("the page", CHECKS.page(), "1 2 3");
        CHECKS.creates("{\"name\":\"n1\"}", 4);
        CHECKS.due("the page", CHECKS.page(), "1 2 3");
        up(0, "4");
    }

    private static void pageStaysWithOtherCalls() {
        CHECKS.about("the page is that of the query, whatever is done afterwards");
        begin("{'name':'a','age':1}", "{'name':'b','age':2}", "{'name':'c','age':3}");
        CHECKS.finds("age ge 2", 2, true, "3 2");
        CHECKS.patches(1, 0, "=age:9", 2);
        CHECKS.patches(3, 0, "-age", 2);
        CHECKS.replaces(2, 0, "{\"name\":\"x\"}", 2);
        CHECKS.creates("{\"name\":\"d\",\"age\":5}", 4);
        CHECKS.creates("{", PeopleStore.SYNTAX);
        CHECKS.due("the page", CHECKS.page(), "3 2");
        CHECKS.finds("age ge 2", 2, true, "1 4");
    }
}
