/** Promise 5: operations on attributes but mail, with nothing as the target, and all together. */
public final class PatchAttributesTest {
    private static final Checks CHECKS = new Checks("PatchAttributesTest");
    private static final String ANN = "{\"name\":\"Ann\",\"age\":5,\"on\":true}";
    private static final String ANN_IS = "\"name\":\"Ann\",\"age\":5,\"on\":true";

    public static void main(String[] args) {
        readOnly();
        names();
        agesAndOns();
        nothing();
        together();
        uniqueAtTheEnd();
        versions();
        CHECKS.end();
    }

    private static void right(String text, int version, String rest) {
        CHECKS.anew(ANN);
        CHECKS.patches(text, version);
        CHECKS.is(1, version, rest);
    }

    private static void wrong(String text, int error) {
        CHECKS.anew(ANN);
        CHECKS.patches(text, error);
        CHECKS.is(1, 1, ANN_IS);
    }

    private static void readOnly() {
        for (String target : new String[] {"id", "version", "Id", "VERSION"}) {
            wrong("-" + target, PeopleStore.MUTABILITY);
            wrong("+" + target + ":1", PeopleStore.MUTABILITY);
            wrong("=" + target + ":1", PeopleStore.MUTABILITY);
            wrong("=" + target + ":[\"x\"]", PeopleStore.MUTABILITY);
        }
    }

    private static void names() {
        right("+name:\"Bob\"", 2, "\"name\":\"Bob\",\"age\":5,\"on\":true");
        right("=name:\"abcdefghijkl\"", 2, "\"name\":\"abcdefghijkl\",\"age\":5,\"on\":true");
        right("=name:\"ANN\"", 2, "\"name\":\"ANN\",\"age\":5,\"on\":true");
        right("=name:\"Ann\"", 1, ANN_IS);
        wrong("-name", PeopleStore.MUTABILITY);
        wrong("+name:\"\"", PeopleStore.UNFIT);
        wrong("+name:\"abcdefghijklm\"", PeopleStore.UNFIT);
        wrong("=name:5", PeopleStore.UNFIT);
        wrong("=name:true", PeopleStore.UNFIT);
        wrong("=name:{}", PeopleStore.UNFIT);
    }

    private static void agesAndOns() {
        right("+age:-7", 2, "\"name\":\"Ann\",\"age\":-7,\"on\":true");
        right("=age:0", 2, "\"name\":\"Ann\",\"age\":0,\"on\":true");
        right("=age:5", 1, ANN_IS);
        right("-age", 2, "\"name\":\"Ann\",\"on\":true");
        right("-age\n-age", 2, "\"name\":\"Ann\",\"on\":true");
        right("=on:FALSE", 2, "\"name\":\"Ann\",\"age\":5,\"on\":false");
        right("+on:true", 1, ANN_IS);
        right("-on", 2, "\"name\":\"Ann\",\"age\":5");
        right("-on\n-on\n+on:false", 2, "\"name\":\"Ann\",\"age\":5,\"on\":false");
        wrong("+age:\"5\"", PeopleStore.UNFIT);
        wrong("+age:true", PeopleStore.UNFIT);
        wrong("=age:[]", PeopleStore.UNFIT);
        wrong("+on:1", PeopleStore.UNFIT);
        wrong("=on:\"true\"", PeopleStore.UNFIT);
        wrong("=on:{}", PeopleStore.UNFIT);
    }

    private static void nothing() {
        right("+:{\"AGE\":6,\"on\":false,\"name\":\"b\"}", 2, "\"name\":\"b\",\"age\":6,\"on\":false");
        right("=:{\"age\":6}", 2, "\"name\":\"Ann\",\"age\":6,\"on\":true");
        right("=:{}", 1, ANN_IS);
        right("=:{\"id\":9,\"Version\":\"x\",\"age\":6}", 2, "\"name\":\"Ann\",\"age\":6,\"on\":true");
        right("+:{\"mail\":{\"v\":\"x\"}}", 2, ANN_IS + ",\"mail\":[{\"v\":\"x\"}]");
        for (String value : new String[] {"5", "true", "\"age\"", "[]", "[{\"age\":6}]"}) {
            wrong("+:" + value, PeopleStore.UNFIT);
            wrong("=:" + value, PeopleStore.UNFIT);
        }
        wrong("+:{\"zz\":1}", PeopleStore.UNFIT);
        wrong("+:{\"v\":\"x\"}", PeopleStore.UNFIT);
        wrong("+:{\"p\":true}", PeopleStore.UNFIT);
        wrong("+:{\"age\":6,\"zz\":1}", PeopleStore.UNFIT);
        wrong("+:{\"age\":6,\"on\":5}", PeopleStore.UNFIT);
        membersInOrder();
    }

    private static void membersInOrder() {
        String five = "[{\"v\":\"a\"},{\"v\":\"b\"},{\"v\":\"c\"},{\"v\":\"d\"},{\"v\":\"e\"}]";
        wrong("+:{\"mail\":" + five + ",\"zz\":1}", PeopleStore.FULL);
        wrong("+:{\"zz\":1,\"mail\":" + five + "}", PeopleStore.UNFIT);
        wrong("+:{\"on\":1,\"mail\":" + five + "}", PeopleStore.UNFIT);
        CHECKS.anew("{\"name\":\"Ann\",\"mail\":[{\"v\":\"x\"}]}");
        CHECKS.patches("+:{\"mail\":[{\"v\":\"y\",\"p\":true}]}\n=:{\"mail\":[{\"v\":\"x\",\"p\":true}]}", 2);
        CHECKS.is(1, 2, "\"name\":\"Ann\",\"mail\":[{\"v\":\"x\",\"p\":true}]");
    }

    private static void together() {
        wrong("-age\n-on\n=name:\"b\"\n-name", PeopleStore.MUTABILITY);
        wrong("-age\n+mail:{\"v\":\"x\"}\n=mail[v eq \"y\"].p:true", PeopleStore.NOTARGET);
        right("-age\n+age:1\n+:{\"age\":2,\"on\":false}\n=on:true", 2,
            "\"name\":\"Ann\",\"age\":2,\"on\":true");
        CHECKS.anew("{\"name\":\"Ann\",\"mail\":[{\"v\":\"x\"},{\"v\":\"y\"}]}");
        CHECKS.patches("-mail[v eq \"x\"]\n=mail.v:\"z\"\n+mail.p:true\n-id", PeopleStore.MUTABILITY);
        CHECKS.is(1, 1, "\"name\":\"Ann\",\"mail\":[{\"v\":\"x\"},{\"v\":\"y\"}]");
        CHECKS.patches("-mail[v eq \"x\"]\n=mail.v:\"z\"\n+mail.p:true", 2);
        CHECKS.is(1, 2, "\"name\":\"Ann\",\"mail\":[{\"v\":\"z\",\"p\":true}]");
    }

    private static void uniqueAtTheEnd() {
        CHECKS.anew(ANN, "{\"name\":\"Bob\"}");
        CHECKS.patches("=name:\"bOB\"\n-age", PeopleStore.UNIQUE);
        CHECKS.is(1, 1, ANN_IS);
        CHECKS.patches("=name:\"Bob\"\n-id", PeopleStore.MUTABILITY);
        CHECKS.patches("=name:\"Bob\"\n=name:\"Cy\"", 2);
        CHECKS.patches("=name:\"Bob\"\n=name:\"Cy\"", 2);
        CHECKS.patches("=name:\"cY\"", 3);
        CHECKS.patches(2, 0, "=name:\"CY\"", PeopleStore.UNIQUE);
        CHECKS.patches(2, 0, "=name:\"Ann\"", 2);
    }

    private static void versions() {
        CHECKS.anew(ANN);
        CHECKS.patches("-age\n+age:5", 1);
        CHECKS.patches("-on\n-age\n+:{\"on\":true,\"age\":5}", 1);
        CHECKS.patches("=age:6\n=age:7\n=age:8", 2);
        CHECKS.patches("=age:8", 2);
        CHECKS.patches("+mail:{\"v\":\"x\"}\n-mail", 2);
        CHECKS.patches("+mail:{\"v\":\"x\"}\n+mail:{\"v\":\"y\"}", 3);
        CHECKS.patches("-mail[v eq \"x\"]\n+mail:{\"v\":\"x\"}", 4);
        CHECKS.patches("=mail:[{\"v\":\"y\"},{\"v\":\"x\"}]", 4);
        CHECKS.patches("=mail[v eq \"x\"].p:false", 5);
        CHECKS.patches("-mail.p", 6);
        CHECKS.patches("-mail.p", 6);
        CHECKS.due("version", CHECKS.store().version(1), 6);
    }
}
