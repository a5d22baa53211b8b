/** Terms: tokens, and the values that are made of them. */
public final class TokensTest {
    private static final Checks CHECKS = new Checks("TokensTest");

    public static void main(String[] args) {
        spaces();
        words();
        numbers();
        strings();
        strangers();
        objects();
        depth();
        CHECKS.end();
    }

    private static void create(String text, int want) {
        CHECKS.anew();
        CHECKS.creates(text, want);
    }

    private static void right(String text, String rest) {
        create(text, 1);
        CHECKS.is(1, 1, rest);
    }

    private static void wrong(String text) {
        create(text, PeopleStore.SYNTAX);
    }

    private static void spaces() {
        right("  {  \"name\"  :  \"a b\"  ,  \"age\" : 5  }  ", "\"name\":\"a b\",\"age\":5");
        right("{\"name\":\" a \"}", "\"name\":\" a \"");
        wrong("{\"name\":\"a\"}\n");
        wrong("\n{\"name\":\"a\"}");
        wrong("{\"name\":\n\"a\"}");
        wrong("{\"name\":\"a\n\"}");
        wrong("{\"name\":\"a\",\"age\":- 5}");
    }

    private static void words() {
        right("{\"name\":\"a\",\"on\":TrUe}", "\"name\":\"a\",\"on\":true");
        right("{\"name\":\"a\",\"on\":FALSE}", "\"name\":\"a\",\"on\":false");
        wrong("{\"name\":\"a\",\"on\":tru}");
        wrong("{\"name\":\"a\",\"on\":truee}");
        wrong("{\"name\":\"a\",\"on\":t rue}");
        wrong("{\"name\":\"a\",\"on\":null}");
        wrong("{name:\"a\"}");
        wrong("{\"name\":\"a\",\"on\":drue}");
        wrong("{\"name\":\"a\",\"on\":talse}");
    }

    private static void numbers() {
        right("{\"name\":\"a\",\"age\":0}", "\"name\":\"a\",\"age\":0");
        right("{\"name\":\"a\",\"age\":-0}", "\"name\":\"a\",\"age\":0");
        right("{\"name\":\"a\",\"age\":999999999}", "\"name\":\"a\",\"age\":999999999");
        right("{\"name\":\"a\",\"age\":-999999999}", "\"name\":\"a\",\"age\":-999999999");
        right("{\"name\":\"a\",\"age\":-10}", "\"name\":\"a\",\"age\":-10");
        wrong("{\"name\":\"a\",\"age\":1000000000}");
        wrong("{\"name\":\"a\",\"age\":-1000000000}");
        wrong("{\"name\":\"a\",\"age\":01}");
        wrong("{\"name\":\"a\",\"age\":-01}");
        wrong("{\"name\":\"a\",\"age\":--1}");
        wrong("{\"name\":\"a\",\"age\":+1}");
        wrong("{\"name\":\"a\",\"age\":1.5}");
        wrong("{\"name\":\"a\",\"age\":1 2}");
        wrong("{\"name\":\"a\",\"age\":-}");
        // Tokens need no space between them.
        CHECKS.anew("{\"name\":\"a\",\"age\":-5}");
        CHECKS.queries("age eq-5and name eq\"a\"and age lt-4", 1);
    }

    private static void strings() {
        right("{\"name\":\"\\\"\\\\\\/\"}", "\"name\":\"\\\"\\\\/\"");
        right("{\"name\":\"{[(:,.+-=)\"}", "\"name\":\"{[(:,.+-=)\"");
        right("{\"name\":\"#!';~_^|@`?\"}", "\"name\":\"#!';~_^|@`?\"");
        wrong("{\"name\":\"a\\n\"}");
        wrong("{\"name\":\"a\\u0041\"}");
        wrong("{\"name\":\"a}");
        wrong("{\"name\":\"a\\\"}");
        wrong("{\"name\":\"a\\");
        wrong("{\"name\":'a'}");
        wrong("{\"name\":\"a\"\"b\"}");
    }

    private static void strangers() {
        for (String each : "! # $ % & ' * / ; < > ? @ \\ ^ _ ` | ~ 5 a \" + - = . , : ( ) [ ] { }"
                .split(" ")) {
            wrong("{\"name\":\"a\"}" + each);
            wrong(each + "{\"name\":\"a\"}");
            wrong("{\"name\":" + each + "\"a\"}");
        }
        for (String each : "! # $ % & ' * / ; < > ? @ \\ ^ _ ` | ~ a \" + - = . , : ( ) [ ] { }".split(" ")) {
            wrong("{\"id\":" + each + ",\"name\":\"a\"}");
            wrong("{" + each + ":1,\"name\":\"a\"}");
        }
    }

    private static void objects() {
        create("{}", PeopleStore.UNFIT);
        create("{\"\":1}", PeopleStore.UNFIT);
        wrong("");
        wrong("   ");
        wrong("5");
        wrong("\"a\"");
        wrong("true");
        wrong("[]");
        wrong("[{\"name\":\"a\"}]");
        wrong("{\"name\":\"a\"}{\"name\":\"a\"}");
        wrong("{\"name\":\"a\",}");
        wrong("{,\"name\":\"a\"}");
        wrong("{\"name\":\"a\",,\"age\":1}");
        wrong("{\"name\":\"a\" \"age\":1}");
        wrong("{\"name\"}");
        wrong("{\"name\":}");
        wrong("{\"name\" \"a\"}");
        wrong("{5:\"a\"}");
        wrong("{\"name\":\"a\"");
        wrong("{\"name\":\"a\"]");
        wrong("{\"name\":\"a\",\"mail\":[}");
        wrong("{\"name\":\"a\",\"mail\":[,]}");
        wrong("{\"name\":\"a\",\"mail\":[{\"v\":\"x\"},]}");
        wrong("{\"name\":\"a\",\"mail\":[{\"v\":\"x\"} {\"v\":\"y\"}]}");
        wrong("{\"name\":\"a\",\"mail\":[{\"v\":\"x\"})}");
        twoOfOneName();
    }

    private static void twoOfOneName() {
        wrong("{\"name\":\"a\",\"name\":\"a\"}");
        wrong("{\"name\":\"a\",\"NAME\":\"a\"}");
        wrong("{\"name\":\"a\",\"id\":1,\"iD\":2}");
        wrong("{\"name\":\"a\",\"x\\/\":1,\"X/\":1}");
        wrong("{\"name\":\"a\",\"mail\":[{\"v\":\"x\",\"V\":\"y\"}]}");
        wrong("{\"id\":{\"a\":1,\"b\":1,\"a\":2},\"name\":\"a\"}");
        right("{\"id\":{\"a\":1,\"b\":{\"a\":2}},\"name\":\"a\"}", "\"name\":\"a\"");
    }

    private static void depth() {
        right("{\"name\":\"a\",\"id\":[[]]}", "\"name\":\"a\"");
        right("{\"name\":\"a\",\"id\":[{\"a\":1},[],[1]]}", "\"name\":\"a\"");
        wrong("{\"name\":\"a\",\"id\":[[[]]]}");
        wrong("{\"name\":\"a\",\"id\":[[{}]]}");
        wrong("{\"name\":\"a\",\"id\":{\"a\":{\"b\":{}}}}");
        wrong("{\"name\":\"a\",\"id\":[" + "[".repeat(40));
        wrong("[".repeat(120));
        wrong("{\"a\":".repeat(24));
    }
}
