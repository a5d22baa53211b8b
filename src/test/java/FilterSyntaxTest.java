/** Promise 7: which texts are filters. */
public final class FilterSyntaxTest {
    private static final Checks CHECKS = new Checks("FilterSyntaxTest");

    public static void main(String[] args) {
        paths();
        operators();
        values();
        pairs();
        depth();
        rows();
        CHECKS.end();
    }

    private static void query(String filter, int want) {
        CHECKS.anew("{\"name\":\"a\"}");
        CHECKS.queries(filter.replace('\'', '"'), want);
    }

    private static void wrong(String filter) {
        query(filter, PeopleStore.SYNTAX);
    }

    private static void paths() {
        wrong("v pr");
        wrong("p pr");
        wrong("zz pr");
        wrong("names pr");
        wrong("'name' pr");
        wrong("5 pr");
        wrong("name.v pr");
        wrong("mail.name pr");
        wrong("mail.mail pr");
        wrong("mail. pr");
        wrong("mail.v.v pr");
        wrong("mail.v[v pr]");
        wrong("name[v pr]");
        wrong("mail[name pr]");
        wrong("mail[id eq 1]");
        wrong("mail[mail pr]");
        wrong("mail[mail.v pr]");
        wrong("mail[mail[v pr]]");
        wrong("mail[v.v pr]");
        wrong("mail[(name pr)]");
        wrong("mail[not(mail pr)]");
        query("mail[v pr] or name pr", 1);
    }

    private static void operators() {
        wrong("name");
        wrong("name is 'a'");
        wrong("name 'a'");
        wrong("name = 'a'");
        wrong("name eq");
        wrong("eq 'a'");
        wrong("name eq eq 'a'");
        wrong("nameeq 'a'");
        wrong("name pr 'a'");
        wrong("name eqs 'a'");
        for (String operator : new String[] {"co", "sw", "ew"}) {
            query("name " + operator + " 'a'", 1);
            query("mail " + operator + " 'a'", 0);
            wrong("age " + operator + " 5");
            wrong("id " + operator + " 1");
            wrong("on " + operator + " true");
            wrong("mail.p " + operator + " true");
            wrong("mail[p " + operator + " true]");
        }
        for (String operator : new String[] {"gt", "ge", "lt", "le"}) {
            query("name " + operator + " 'b'", operator.startsWith("l") ? 1 : 0);
            query("age " + operator + " 5", 0);
            wrong("on " + operator + " true");
            wrong("mail.p " + operator + " true");
            wrong("mail[p " + operator + " true]");
        }
    }

    private static void values() {
        for (String path : new String[] {"id", "version", "age"}) {
            query(path + " eq 7", 0);
            wrong(path + " eq '7'");
            wrong(path + " eq true");
        }
        for (String path : new String[] {"name", "mail", "mail.v"}) {
            query(path + " eq ''", 0);
            query(path + " eq 'abcdefghijklmnopqrstuvwxyz'", 0);
            wrong(path + " eq 7");
            wrong(path + " ne true");
        }
        for (String path : new String[] {"on", "mail.p"}) {
            query(path + " eq true", 0);
            wrong(path + " eq 1");
            wrong(path + " eq 'true'");
        }
        wrong("name eq a");
        wrong("name eq name");
        wrong("name eq ['a']");
        wrong("name eq {}");
        wrong("age eq []");
        wrong("age eq 05");
        wrong("age eq - 5");
        wrong("age eq +5");
        wrong("name eq 'a");
    }

    private static void pairs() {
        query("(name pr)", 1);
        query("not(name pr)", 0);
        query("not  (  name pr  )  ", 0);
        wrong("not name pr");
        wrong("not not(name pr)");
        wrong("not");
        wrong("not mail[v pr]");
        wrong("()");
        wrong("not()");
        wrong("mail[]");
        wrong("(name pr");
        wrong("name pr)");
        wrong("(name pr]");
        wrong("[name pr]");
        wrong("mail(v pr)");
        wrong("mail[v pr)");
        wrong("mail[v pr");
        wrong("(name) pr");
        wrong("{name pr}");
    }

    private static void depth() {
        query("((((((name pr))))))", 1);
        wrong("(((((((name pr)))))))");
        query("not(not(not(not(not(not(name pr))))))", 1);
        wrong("not(not(not(not(not(not(not(name pr)))))))");
        query("(((((mail[v pr])))))", 0);
        wrong("((((((mail[v pr]))))))");
        query("mail[(((((v pr)))))]", 0);
        wrong("mail[((((((v pr))))))]");
        query("(((mail[((v pr))])))", 0);
        wrong("(((mail[(((v pr)))])))");
        // Pairs beside one another do not add up.
        query("((((((name pr)))))) and ((((((name pr)))))) or mail[(((((v pr)))))]", 1);
        wrong("(".repeat(120));
        wrong("not(".repeat(30));
    }

    private static void rows() {
        wrong("name pr and");
        wrong("and name pr");
        wrong("or");
        wrong("name pr or or name pr");
        wrong("name pr and or name pr");
        wrong("name pr name pr");
        wrong("name pr, name pr");
        wrong("name pr not(name pr)");
        wrong("name pr\n");
        wrong("\n");
        wrong("name pr\nor name pr");
        wrong("name pr;");
        wrong("name pr ar name pr");
        wrong("name pr ond name pr");
        wrong("bot(name pr)");
        wrong("on eq drue");
        wrong("name eq #");
        query("name pr or name pr or name pr or name pr or name pr or name pr or name pr or name pr or name pr", 1);
        query("mail[p pr or p pr or p pr or p pr or p pr or p pr or p pr or p pr or p pr or p pr]", 0);
    }
}
