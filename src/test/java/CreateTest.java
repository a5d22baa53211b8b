/** Promise 3: create, and what a resource is made from. */
public final class CreateTest {
    private static final Checks CHECKS = new Checks("CreateTest");

    public static void main(String[] args) {
        attributes();
        kindsAndLengths();
        mail();
        ids();
        uniqueNames();
        full();
        orderOfErrors();
        bufferIsUsed();
        CHECKS.end();
    }

    private static void right(String text, String rest) {
        CHECKS.anew(text);
        CHECKS.is(1, 1, rest);
    }

    private static void unfit(String text) {
        CHECKS.anew();
        CHECKS.creates(text, PeopleStore.UNFIT);
        CHECKS.due("resources after " + text, CHECKS.store().resources(), 0);
    }

    private static void attributes() {
        right("{\"name\":\"a\"}", "\"name\":\"a\"");
        right("{\"mail\":[{\"p\":true,\"v\":\"x\"}],\"on\":false,\"age\":-7,\"name\":\"Ab\"}",
            "\"name\":\"Ab\",\"age\":-7,\"on\":false,\"mail\":[{\"v\":\"x\",\"p\":true}]");
        right("{\"NAME\":\"a\",\"Age\":3,\"oN\":true,\"mAIL\":[{\"V\":\"x\",\"P\":false}]}",
            "\"name\":\"a\",\"age\":3,\"on\":true,\"mail\":[{\"v\":\"x\",\"p\":false}]");
        right("{\"id\":7,\"version\":9,\"name\":\"a\"}", "\"name\":\"a\"");
        right("{\"ID\":\"x\",\"Version\":[{}],\"name\":\"a\"}", "\"name\":\"a\"");
        unfit("{\"age\":1}");
        unfit("{\"name\":\"a\",\"v\":\"x\"}");
        unfit("{\"name\":\"a\",\"p\":true}");
        unfit("{\"name\":\"a\",\"nam\":\"b\"}");
        unfit("{\"name\":\"a\",\"names\":\"b\"}");
        unfit("{\"name\":\"a\",\"name \":\"b\"}");
        unfit("{\"name\":\"a\",\"mail.v\":\"x\"}");
    }

    private static void kindsAndLengths() {
        right("{\"name\":\"abcdefghijkl\"}", "\"name\":\"abcdefghijkl\"");
        String quotes = "\\\"".repeat(12);
        right("{\"name\":\"" + quotes + "\"}", "\"name\":\"" + quotes + "\"");
        unfit("{\"name\":\"\"}");
        unfit("{\"name\":\"abcdefghijklm\"}");
        unfit("{\"name\":5}");
        unfit("{\"name\":true}");
        unfit("{\"name\":[\"a\"]}");
        unfit("{\"name\":{}}");
        unfit("{\"name\":\"a\",\"age\":\"5\"}");
        unfit("{\"name\":\"a\",\"age\":true}");
        unfit("{\"name\":\"a\",\"age\":[]}");
        unfit("{\"name\":\"a\",\"on\":1}");
        unfit("{\"name\":\"a\",\"on\":\"true\"}");
        unfit("{\"name\":\"a\",\"on\":{}}");
    }

    private static void mail() {
        right("{\"name\":\"a\",\"mail\":[]}", "\"name\":\"a\"");
        String four = "\"mail\":[{\"v\":\"x\"},{\"v\":\"X\"},{\"v\":\"y\",\"p\":false},{\"v\":\"z\",\"p\":true}]";
        right("{\"name\":\"a\"," + four + "}", "\"name\":\"a\"," + four);
        unfit("{\"name\":\"a\",\"mail\":[{\"v\":\"a\"},{\"v\":\"b\"},{\"v\":\"c\"},{\"v\":\"d\"},{\"v\":\"e\"}]}");
        unfit("{\"name\":\"a\",\"mail\":{\"v\":\"x\"}}");
        unfit("{\"name\":\"a\",\"mail\":\"x\"}");
        unfit("{\"name\":\"a\",\"mail\":[\"x\"]}");
        unfit("{\"name\":\"a\",\"mail\":[[]]}");
        unfit("{\"name\":\"a\",\"mail\":[{}]}");
        unfit("{\"name\":\"a\",\"mail\":[{\"p\":true}]}");
        unfit("{\"name\":\"a\",\"mail\":[{\"v\":\"x\"},{\"p\":true}]}");
        unfit("{\"name\":\"a\",\"mail\":[{\"v\":\"x\",\"q\":1}]}");
        unfit("{\"name\":\"a\",\"mail\":[{\"v\":\"x\",\"id\":1}]}");
        unfit("{\"name\":\"a\",\"mail\":[{\"v\":\"\"}]}");
        unfit("{\"name\":\"a\",\"mail\":[{\"v\":\"abcdefghijklm\"}]}");
        unfit("{\"name\":\"a\",\"mail\":[{\"v\":5}]}");
        unfit("{\"name\":\"a\",\"mail\":[{\"v\":\"x\",\"p\":1}]}");
        unfit("{\"name\":\"a\",\"mail\":[{\"v\":\"x\"},{\"v\":\"y\"},{\"v\":\"x\"}]}");
        unfit("{\"name\":\"a\",\"mail\":[{\"v\":\"x\",\"p\":true},{\"v\":\"y\"},{\"v\":\"z\",\"p\":true}]}");
    }

    private static void ids() {
        CHECKS.anew("{\"name\":\"a\"}", "{\"name\":\"b\"}");
        CHECKS.creates("{", PeopleStore.SYNTAX);
        CHECKS.creates("{}", PeopleStore.UNFIT);
        CHECKS.creates("{\"name\":\"a\"}", PeopleStore.UNIQUE);
        CHECKS.creates("{\"name\":\"c\"}", 3);
        CHECKS.removes(3, 0, 0);
        CHECKS.removes(1, 0, 0);
        CHECKS.creates("{\"name\":\"a\"}", 4);
        CHECKS.due("resources", CHECKS.store().resources(), 2);
    }

    private static void uniqueNames() {
        CHECKS.anew("{\"name\":\"Ab\"}", "{\"name\":\"b\"}");
        CHECKS.creates("{\"name\":\"Ab\"}", PeopleStore.UNIQUE);
        CHECKS.creates("{\"name\":\"aB\"}", PeopleStore.UNIQUE);
        CHECKS.creates("{\"name\":\"B\"}", PeopleStore.UNIQUE);
        CHECKS.creates("{\"name\":\"A\"}", 3);
        CHECKS.creates("{\"name\":\"abz\"}", 4);
        CHECKS.creates("{\"name\":\"aBZ\"}", PeopleStore.UNIQUE);
        // Only letters have small ones: [ and { lie as far apart.
        CHECKS.creates("{\"name\":\"[\"}", 5);
        CHECKS.creates("{\"name\":\"{\"}", 6);
        CHECKS.creates("{\"name\":\"@\"}", 7);
        CHECKS.creates("{\"name\":\"`\"}", 8);
    }

    private static void fill() {
        CHECKS.anew();
        for (int i = 1; i <= 8; i++) {
            CHECKS.creates("{\"name\":\"n" + i + "\"}", i);
        }
    }

    private static void full() {
        fill();
        CHECKS.creates("{\"name\":\"n9\"}", PeopleStore.FULL);
        CHECKS.due("resources", CHECKS.store().resources(), 8);
        CHECKS.removes(4, 0, 0);
        CHECKS.creates("{\"name\":\"n9\"}", 9);
        CHECKS.creates("{\"name\":\"n10\"}", PeopleStore.FULL);
    }

    private static void orderOfErrors() {
        fill();
        CHECKS.creates("{\"name\":\"n1\",\"zz\":}", PeopleStore.SYNTAX);
        CHECKS.creates("{\"name\":\"n1\",\"zz\":1}", PeopleStore.UNFIT);
        CHECKS.creates("{\"name\":\"N1\"}", PeopleStore.UNIQUE);
        CHECKS.creates("{\"name\":\"n9\"}", PeopleStore.FULL);
    }

    private static void bufferIsUsed() {
        fill();
        for (String text : new String[] {"{", "{}", "{\"name\":\"n1\"}", "{\"name\":\"n9\"}"}) {
            CHECKS.say(text);
            CHECKS.store().create();
            CHECKS.due("buffer after " + text, CHECKS.store().query(0, false, 1, 9), 8);
        }
        CHECKS.removes(1, 0, 0);
        CHECKS.creates("{\"name\":\"n9\"}", 9);
        CHECKS.due("buffer after a right one", CHECKS.store().query(0, false, 1, 9), 8);
    }
}
