/** Promises 7 and 8: the order of a query's page, what stands on it, and page itself. */
public final class QueryTest {
    private static final Checks CHECKS = new Checks("QueryTest");

    public static void main(String[] args) {
        orders();
        mailOrders();
        alike();
        slices();
        errors();
        bufferIsUsed();
        pageStays();
        CHECKS.end();
    }

    private static void begin() {
        CHECKS.anew("{\"name\":\"d\",\"age\":7}",
            "{\"name\":\"B\",\"age\":-7,\"on\":true,\"mail\":[{\"v\":\"b\"},{\"v\":\"a\",\"p\":true}]}",
            "{\"name\":\"_\",\"on\":false,\"mail\":[{\"v\":\"B\"},{\"v\":\"c\",\"p\":false}]}",
            "{\"name\":\"C\",\"age\":40,\"mail\":[{\"v\":\"aa\"}]}");
    }

    private static void orders() {
        begin();
        CHECKS.finds("", 0, false, "1 2 3 4");
        CHECKS.finds("", 0, true, "4 3 2 1");
        CHECKS.finds("", 1, false, "3 2 4 1");
        CHECKS.finds("", 1, true, "1 4 2 3");
        CHECKS.finds("", 2, false, "2 1 4 3");
        CHECKS.finds("", 2, true, "3 4 1 2");
        CHECKS.finds("", 3, false, "3 2 1 4");
        CHECKS.finds("", 3, true, "1 4 2 3");
        CHECKS.finds("", 4, false, "3 2 4 1");
        CHECKS.finds("", 4, true, "1 4 2 3");
        CHECKS.finds("id ge 2", 1, true, "4 2 3");
        CHECKS.finds("not(mail pr)", 4, false, "1");
        CHECKS.finds("id gt 9", 2, true, "");
    }

    private static void mailOrders() {
        CHECKS.anew("{\"name\":\"1\",\"mail\":[{\"v\":\"m\"},{\"v\":\"b\"}]}",
            "{\"name\":\"2\",\"mail\":[{\"v\":\"a\",\"p\":false},{\"v\":\"n\",\"p\":true}]}",
            "{\"name\":\"3\",\"mail\":[{\"v\":\"z\",\"p\":false},{\"v\":\"a\",\"p\":false}]}",
            "{\"name\":\"4\",\"mail\":[{\"v\":\"M\"}]}");
        CHECKS.finds("", 4, false, "4 1 2 3");
        CHECKS.finds("", 4, true, "3 2 1 4");
    }

    private static void alike() {
        CHECKS.anew("{\"name\":\"a\",\"age\":1}", "{\"name\":\"b\"}",
            "{\"name\":\"c\",\"age\":1,\"mail\":[{\"v\":\"x\"}]}",
            "{\"name\":\"d\"}", "{\"name\":\"e\",\"age\":2,\"mail\":[{\"v\":\"x\",\"p\":true}]}");
        CHECKS.finds("", 2, false, "1 3 5 2 4");
        CHECKS.finds("", 2, true, "2 4 5 1 3");
        CHECKS.finds("", 3, false, "1 2 3 4 5");
        CHECKS.finds("", 3, true, "1 2 3 4 5");
        CHECKS.finds("", 4, false, "3 5 1 2 4");
        CHECKS.finds("", 4, true, "1 2 4 3 5");
        CHECKS.removes(1, 0, 0);
        CHECKS.creates("{\"name\":\"a\",\"age\":1}", 6);
        CHECKS.finds("", 2, true, "2 4 5 3 6");
    }

    private static void slice(int start, int count, String want) {
        CHECKS.due("query from " + start + ", " + count, CHECKS.store().query(0, false, start, count), 4);
        CHECKS.due("page from " + start + ", " + count, CHECKS.page(), want);
    }

    private static void slices() {
        begin();
        slice(1, 4, "1 2 3 4");
        slice(1, 2, "1 2");
        slice(2, 2, "2 3");
        slice(4, 2, "4");
        slice(5, 2, "");
        slice(0, 3, "1 2 3");
        slice(-5, 1, "1");
        slice(Integer.MIN_VALUE, 9, "1 2 3 4");
        slice(Integer.MAX_VALUE, Integer.MAX_VALUE, "");
        slice(2, Integer.MAX_VALUE, "2 3 4");
        slice(1, 0, "");
        slice(1, -1, "");
        slice(1, Integer.MIN_VALUE, "");
        CHECKS.due("query down", CHECKS.store().query(1, true, 2, 2), 4);
        CHECKS.due("page down", CHECKS.page(), "4 2");
    }

    private static void errors() {
        begin();
        CHECKS.finds("id le 2", "1 2");
        for (int sort : new int[] {-1, 5, Integer.MIN_VALUE, Integer.MAX_VALUE}) {
            CHECKS.due("sort " + sort, CHECKS.store().query(sort, false, 1, 9), PeopleStore.UNFIT);
            CHECKS.due("page after sort " + sort, CHECKS.page(), "1 2");
        }
        CHECKS.say("name");
        CHECKS.due("both wrong", CHECKS.store().query(5, false, 1, 9), PeopleStore.SYNTAX);
        CHECKS.queries("name eq 5", PeopleStore.SYNTAX);
        CHECKS.due("page after a wrong text", CHECKS.page(), "1 2");
    }

    private static void bufferIsUsed() {
        begin();
        CHECKS.queries("id eq 1", 1);
        CHECKS.queries("", 4);
        CHECKS.queries("zz", PeopleStore.SYNTAX);
        CHECKS.queries("", 4);
        CHECKS.say("id eq 1");
        CHECKS.due("a wrong sort", CHECKS.store().query(9, false, 1, 9), PeopleStore.UNFIT);
        CHECKS.queries("", 4);
    }

    private static void pageStays() {
        begin();
        CHECKS.finds("", 0, true, "4 3 2 1");
        CHECKS.removes(3, 0, 0);
        CHECKS.patches(4, 0, "=name:\"x\"", 2);
        CHECKS.creates("{\"name\":\"n\"}", 5);
        CHECKS.due("the page", CHECKS.page(), "4 3 2 1");
        CHECKS.due("page(-1)", CHECKS.store().page(-1), PeopleStore.MISSING);
        CHECKS.due("page(4)", CHECKS.store().page(4), PeopleStore.MISSING);
        CHECKS.due("page far below", CHECKS.store().page(Integer.MIN_VALUE), PeopleStore.MISSING);
        CHECKS.due("page far above", CHECKS.store().page(Integer.MAX_VALUE), PeopleStore.MISSING);
        CHECKS.finds("id eq 5", "5");
        CHECKS.due("page(1)", CHECKS.store().page(1), PeopleStore.MISSING);
        CHECKS.finds("id eq 3", "");
        CHECKS.due("page(0)", CHECKS.store().page(0), PeopleStore.MISSING);
    }
}
