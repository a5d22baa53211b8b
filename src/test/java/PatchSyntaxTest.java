/** Promise 5: which texts are patches, and which errors come ahead of the operations. */
public final class PatchSyntaxTest {
    private static final Checks CHECKS = new Checks("PatchSyntaxTest");
    private static final String ANN =
        "{\"name\":\"Ann\",\"age\":5,\"on\":true,\"mail\":[{\"v\":\"x\"},{\"v\":\"y\",\"p\":true}]}";

    public static void main(String[] args) {
        targets();
        values();
        filters();
        rows();
        orderOfErrors();
        bufferIsUsed();
        CHECKS.end();
    }

    private static void patch(String text, int want) {
        CHECKS.anew(ANN);
        CHECKS.patches(text, want);
    }

    private static void wrong(String text) {
        patch(text, PeopleStore.SYNTAX);
    }

    private static void targets() {
        patch("-age", 2);
        patch(" - AGE ", 2);
        patch("=MAIL . V:\"z\"", PeopleStore.UNFIT);
        patch("-Mail[V eq \"x\"] . P", 1);
        patch("+ : {}", 1);
        patch("=:{}", 1);
        wrong("-");
        wrong("-:{}");
        wrong("-zz");
        wrong("-v");
        wrong("+p:true");
        wrong("+\"age\":5");
        wrong("-name.v");
        wrong("-age.p");
        wrong("-age[v pr]");
        wrong("-mail.");
        wrong("-mail.zz");
        wrong("-mail.mail");
        wrong("-mail.name");
        wrong("-mail.v.v");
        wrong("-mail[]");
        wrong("-mail[v pr");
        wrong("-mail[v pr)");
        wrong("-mail[v pr][v pr]");
        wrong("-mail.v[v pr]");
        wrong("-mail[v pr].name");
        wrong("-mail[v pr] p");
        wrong("-mail v");
    }

    private static void values() {
        wrong("+");
        wrong("+age");
        wrong("+age:");
        wrong("+age 5");
        wrong("+age:5 6");
        wrong("+age:05");
        wrong("+age:x");
        wrong("+age::5");
        wrong("=age=5");
        wrong("-age:5");
        wrong("-mail:[]");
        wrong("-mail[v pr]:{}");
        wrong("+:");
        wrong("+{}");
        wrong("+:{\"age\":5,\"AGE\":6}");
        wrong("+id");
        wrong("-id:5");
        wrong("+mail:[[[[]]]]");
        patch("+mail:[[[]]]", PeopleStore.UNFIT);
        wrong("+:{\"mail\":[{\"v\":[]}]}");
        patch("+:{\"mail\":[{\"v\":5}]}", PeopleStore.UNFIT);
    }

    private static void filters() {
        patch("-mail[(((((v pr)))))]", 2);
        wrong("-mail[((((((v pr))))))]");
        patch("-mail[not(not(not(not(not(v pr)))))]", 1);
        wrong("-mail[not(not(not(not(not(not(v pr))))))]");
        wrong("-mail[name pr]");
        wrong("-mail[mail pr]");
        wrong("-mail[mail.v pr]");
        wrong("-mail[mail[v pr]]");
        wrong("-mail[v]");
        wrong("-mail[v eq]");
        wrong("-mail[v eq 5]");
        wrong("-mail[p eq \"true\"]");
        wrong("-mail[p gt true]");
        wrong("-mail[p co true]");
        wrong("-mail[v pr or]");
        wrong("-mail[v pr v pr]");
        wrong("-mail[v pr\n]");
        patch("-mail[v pr and p pr or v eq \"x\" and not (p pr)]", 2);
    }

    private static void rows() {
        patch("-age\n-on", 2);
        patch("  -age  \n  -on  ", 2);
        patch("-age\n-age\n-age", 2);
        wrong("");
        wrong("   ");
        wrong("\n");
        wrong("\n-age");
        wrong("-age\n");
        wrong("-age\n\n-on");
        wrong("-age -on");
        wrong("-age,-on");
        wrong("age");
        wrong("*age:5");
        wrong(":{}");
        wrong("{}");
        wrong("+age\n:5");
        wrong("+age:\n5");
        wrong("5");
        wrong("-5");
    }

    private static void orderOfErrors() {
        CHECKS.anew(ANN);
        CHECKS.patches(2, 7, "zz", PeopleStore.MISSING);
        CHECKS.patches(1, 7, "zz", PeopleStore.VERSION);
        CHECKS.patches(1, -1, "-age", PeopleStore.VERSION);
        CHECKS.patches(1, 2, "-age", PeopleStore.VERSION);
        // A wrong text counts ahead of every operation, a wrong filter of the last, too.
        CHECKS.patches(1, 1, "+id:5\n-age\n-mail[v co 5]", PeopleStore.SYNTAX);
        CHECKS.patches(1, 1, "+id:5\n-age\n-", PeopleStore.SYNTAX);
        CHECKS.patches(1, 1, "+id:5\n+age:\"x\"", PeopleStore.MUTABILITY);
        CHECKS.patches(1, 1, "+age:\"x\"\n+id:5", PeopleStore.UNFIT);
        CHECKS.patches(1, 1, "-age", 2);
        CHECKS.patches(1, 1, "-on", PeopleStore.VERSION);
        CHECKS.patches(1, 2, "-on", 3);
    }

    private static void bufferIsUsed() {
        CHECKS.anew(ANN);
        CHECKS.patches(9, 0, "-age", PeopleStore.MISSING);
        CHECKS.queries("", 1);
        CHECKS.patches(1, 9, "-age", PeopleStore.VERSION);
        CHECKS.queries("", 1);
        CHECKS.patches(1, 0, "-", PeopleStore.SYNTAX);
        CHECKS.queries("", 1);
        CHECKS.patches(1, 0, "-name", PeopleStore.MUTABILITY);
        CHECKS.queries("", 1);
        CHECKS.patches(1, 0, "-age", 2);
        CHECKS.queries("", 1);
    }
}
