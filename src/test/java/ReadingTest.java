/** Promises 9 to 12: resources, version, length and letter. */
public final class ReadingTest {
    private static final Checks CHECKS = new Checks("ReadingTest");

    public static void main(String[] args) {
        resources();
        versions();
        writtenForms();
        lengths();
        letters();
        longest();
        CHECKS.end();
    }

    private static void resources() {
        CHECKS.anew();
        for (int i = 1; i <= 8; i++) {
            CHECKS.due("resources", CHECKS.store().resources(), i - 1);
            CHECKS.creates("{\"name\":\"n" + i + "\"}", i);
        }
        CHECKS.creates("{\"name\":\"n9\"}", PeopleStore.FULL);
        CHECKS.due("resources", CHECKS.store().resources(), 8);
        CHECKS.replaces(3, 0, "{\"name\":\"x\"}", 2);
        CHECKS.due("resources", CHECKS.store().resources(), 8);
        CHECKS.removes(3, 1, PeopleStore.VERSION);
        CHECKS.due("resources", CHECKS.store().resources(), 8);
        CHECKS.removes(3, 2, 0);
        CHECKS.due("resources", CHECKS.store().resources(), 7);
    }

    private static void versions() {
        CHECKS.anew("{\"name\":\"a\"}", "{\"name\":\"b\"}");
        CHECKS.due("version(1)", CHECKS.store().version(1), 1);
        for (int i = 2; i <= 12; i++) {
            CHECKS.patches(2, 0, "=age:" + i, i);
            CHECKS.due("version(2)", CHECKS.store().version(2), i);
        }
        CHECKS.queries("version ge 12", 1);
        CHECKS.is(2, 12, "\"name\":\"b\",\"age\":12");
        CHECKS.due("version(1)", CHECKS.store().version(1), 1);
        for (int id : new int[] {0, -1, 3, Integer.MIN_VALUE, Integer.MAX_VALUE}) {
            CHECKS.due("version(" + id + ")", CHECKS.store().version(id), PeopleStore.MISSING);
        }
    }

    private static void writtenForms() {
        String[] rests = {
            "\"name\":\"a\"", "\"name\":\"a\",\"age\":0", "\"name\":\"a\",\"age\":-5",
            "\"name\":\"a\",\"age\":999999999", "\"name\":\"a\",\"on\":true",
            "\"name\":\"a\",\"on\":false", "\"name\":\"a\",\"mail\":[{\"v\":\"x\"}]",
            "\"name\":\"a\",\"mail\":[{\"v\":\"x\",\"p\":true},{\"v\":\"y\",\"p\":false},{\"v\":\"z\"}]",
            "\"name\":\"A b\",\"age\":12,\"on\":true,\"mail\":[{\"v\":\"x\"},{\"v\":\"X\"}]",
            "\"name\":\"\\\"\\\\\",\"mail\":[{\"v\":\"\\\\\\\"\"}]"
        };
        for (String rest : rests) {
            CHECKS.anew("{" + rest + "}");
            CHECKS.is(1, 1, rest);
        }
        CHECKS.anew("{\"mail\":[{\"p\":false,\"v\":\"\\/\"}],\"name\":\"\\/\\\"\"}");
        CHECKS.is(1, 1, "\"name\":\"/\\\"\",\"mail\":[{\"v\":\"/\",\"p\":false}]");
    }

    private static void lengths() {
        CHECKS.anew("{\"name\":\"a\"}");
        CHECKS.due("length(1)", CHECKS.store().length(1), "{\"id\":1,\"version\":1,\"name\":\"a\"}".length());
        CHECKS.patches("=name:\"\\\"\\\\\\/\"", 2);
        CHECKS.due("length(1)", CHECKS.store().length(1), 35);
        CHECKS.patches("+mail:[]", 2);
        CHECKS.due("length(1)", CHECKS.store().length(1), 35);
        for (int id : new int[] {0, -1, 2, Integer.MIN_VALUE, Integer.MAX_VALUE}) {
            CHECKS.due("length(" + id + ")", CHECKS.store().length(id), PeopleStore.MISSING);
        }
    }

    private static void letters() {
        CHECKS.anew("{\"name\":\"a\"}", "{\"name\":\"b\"}");
        CHECKS.due("a letter of 1", CHECKS.store().letter(1, 6), (int) '1');
        CHECKS.due("a letter of 2", CHECKS.store().letter(2, 6), (int) '2');
        CHECKS.due("a letter of 1 again", CHECKS.store().letter(1, 6), (int) '1');
        int length = CHECKS.store().length(2);
        CHECKS.due("the first", CHECKS.store().letter(2, 0), (int) '{');
        CHECKS.due("the last", CHECKS.store().letter(2, length - 1), (int) '}');
        CHECKS.due("the one before", CHECKS.store().letter(2, -1), 0);
        CHECKS.due("the one behind", CHECKS.store().letter(2, length), 0);
        CHECKS.due("far before", CHECKS.store().letter(2, Integer.MIN_VALUE), 0);
        CHECKS.due("far behind", CHECKS.store().letter(2, Integer.MAX_VALUE), 0);
        for (int id : new int[] {0, -1, 3, Integer.MIN_VALUE, Integer.MAX_VALUE}) {
            CHECKS.due("letter(" + id + ", 0)", CHECKS.store().letter(id, 0), 0);
        }
        // Reading leaves the buffer alone.
        CHECKS.say("{\"name\":");
        CHECKS.is(1, 1, "\"name\":\"a\"");
        CHECKS.due("resources", CHECKS.store().resources(), 2);
        CHECKS.due("version", CHECKS.store().version(1), 1);
        CHECKS.due("page", CHECKS.store().page(0), PeopleStore.MISSING);
        CHECKS.creates("\"c\"}", 3);
    }

    private static void longest() {
        String full = "\\\"".repeat(11);
        CHECKS.anew("{\"name\":\"" + full + "n\",\"age\":-999999999,\"on\":false}");
        StringBuilder items = new StringBuilder();
        for (char c = 'a'; c <= 'd'; c++) {
            CHECKS.patches("+mail:{\"v\":\"" + full + c + "\",\"p\":false}", c - 'a' + 2);
            items.append(c == 'a' ? "" : ",").append("{\"v\":\"").append(full).append(c).append("\",\"p\":false}");
        }
        String want = "{\"id\":1,\"version\":5,\"name\":\"" + full
            + "n\",\"age\":-999999999,\"on\":false,\"mail\":[" + items + "]}";
        CHECKS.due("the longest", CHECKS.written(1), want);
    }
}
