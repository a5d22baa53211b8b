/** Promise 4: replace. */
public final class ReplaceTest {
    private static final Checks CHECKS = new Checks("ReplaceTest");
    private static final String ANN = "{\"name\":\"Ann\",\"age\":5,\"mail\":[{\"v\":\"x\"}]}";
    private static final String BOB = "{\"name\":\"Bob\",\"on\":true}";

    public static void main(String[] args) {
        becomesAnother();
        versions();
        orderOfErrors();
        errorsChangeNothing();
        bufferIsUsed();
        CHECKS.end();
    }

    private static void becomesAnother() {
        CHECKS.anew(ANN, BOB);
        CHECKS.replaces(1, 0, "{\"name\":\"Cy\",\"id\":9,\"version\":9,\"on\":false}", 2);
        CHECKS.is(1, 2, "\"name\":\"Cy\",\"on\":false");
        CHECKS.is(2, 1, "\"name\":\"Bob\",\"on\":true");
        CHECKS.due("resources", CHECKS.store().resources(), 2);
        CHECKS.creates(ANN, 3);
    }

    private static void versions() {
        CHECKS.anew(ANN, BOB);
        CHECKS.replaces(1, 1, ANN, 1);
        CHECKS.replaces(1, 1, "{\"mail\":[{\"v\":\"x\"}],\"age\":5,\"name\":\"Ann\"}", 1);
        CHECKS.replaces(1, 1, "{\"name\":\"aNN\",\"age\":5,\"mail\":[{\"v\":\"x\"}]}", 2);
        CHECKS.replaces(1, 2, ANN, 3);
        CHECKS.replaces(1, 0, "{\"name\":\"Ann\",\"age\":5,\"mail\":[{\"v\":\"X\"}]}", 4);
        CHECKS.replaces(1, 1, ANN, PeopleStore.VERSION);
        CHECKS.replaces(1, 5, ANN, PeopleStore.VERSION);
        CHECKS.replaces(1, -4, ANN, PeopleStore.VERSION);
        CHECKS.replaces(1, 4, ANN, 5);
        CHECKS.due("version", CHECKS.store().version(1), 5);
        CHECKS.due("version of the other", CHECKS.store().version(2), 1);
        smallDifferences();
    }

    private static void smallDifferences() {
        String[] row = {
            "{\"name\":\"a\"}", "{\"name\":\"a\",\"age\":0}", "{\"name\":\"a\",\"age\":1}",
            "{\"name\":\"a\",\"on\":false}", "{\"name\":\"a\",\"on\":true}", "{\"name\":\"a\"}",
            "{\"name\":\"a\",\"mail\":[{\"v\":\"x\"}]}",
            "{\"name\":\"a\",\"mail\":[{\"v\":\"x\",\"p\":false}]}",
            "{\"name\":\"a\",\"mail\":[{\"v\":\"x\",\"p\":true}]}",
            "{\"name\":\"a\",\"mail\":[{\"v\":\"x\"},{\"v\":\"y\"}]}",
            "{\"name\":\"a\",\"mail\":[{\"v\":\"y\"},{\"v\":\"x\"}]}", "{\"name\":\"ab\"}"
        };
        CHECKS.anew(row[0]);
        for (int i = 1; i < row.length; i++) {
            CHECKS.replaces(1, 0, row[i], i + 1);
            CHECKS.replaces(1, 0, row[i], i + 1);
        }
    }

    private static void orderOfErrors() {
        CHECKS.anew(ANN, BOB);
        CHECKS.replaces(3, 7, "{", PeopleStore.MISSING);
        CHECKS.replaces(0, 0, ANN, PeopleStore.MISSING);
        CHECKS.replaces(-1, 0, ANN, PeopleStore.MISSING);
        CHECKS.replaces(1, 7, "{", PeopleStore.VERSION);
        CHECKS.replaces(1, 1, "{\"name\":\"Bob\",\"zz\":}", PeopleStore.SYNTAX);
        CHECKS.replaces(1, 0, "[]", PeopleStore.SYNTAX);
        CHECKS.replaces(1, 0, "", PeopleStore.SYNTAX);
        CHECKS.replaces(1, 0, "{\"name\":\"Bob\",\"zz\":1}", PeopleStore.UNFIT);
        CHECKS.replaces(1, 0, "{\"age\":1}", PeopleStore.UNFIT);
        CHECKS.replaces(1, 0, "{\"name\":\"bOB\"}", PeopleStore.UNIQUE);
        CHECKS.removes(2, 0, 0);
        CHECKS.replaces(2, 0, BOB, PeopleStore.MISSING);
        CHECKS.replaces(1, 0, "{\"name\":\"bOB\"}", 2);
    }

    private static void errorsChangeNothing() {
        CHECKS.anew(ANN, BOB);
        CHECKS.replaces(1, 7, "{\"name\":\"c\"}", PeopleStore.VERSION);
        CHECKS.replaces(1, 0, "{\"name\":\"c\"", PeopleStore.SYNTAX);
        CHECKS.replaces(1, 0, "{\"name\":\"c\",\"on\":5}", PeopleStore.UNFIT);
        CHECKS.replaces(1, 0, "{\"name\":\"bob\",\"on\":true}", PeopleStore.UNIQUE);
        CHECKS.is(1, 1, "\"name\":\"Ann\",\"age\":5,\"mail\":[{\"v\":\"x\"}]");
        CHECKS.is(2, 1, "\"name\":\"Bob\",\"on\":true");
    }

    private static void bufferIsUsed() {
        CHECKS.anew(ANN, BOB);
        int[][] calls = {{9, 0}, {1, 9}, {1, 0}};
        for (int[] each : calls) {
            CHECKS.say("{\"name\":\"Ann\"}");
            CHECKS.store().replace(each[0], each[1]);
            CHECKS.due("buffer", CHECKS.store().query(0, false, 1, 9), 2);
        }
        for (String text : new String[] {"{", "{}", "{\"name\":\"BOB\"}"}) {
            CHECKS.say(text);
            CHECKS.store().replace(1, 0);
            CHECKS.due("buffer after " + text, CHECKS.store().query(0, false, 1, 9), 2);
        }
    }
}
