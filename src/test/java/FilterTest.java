/** Promise 7: what the filters of a query match. */
public final class FilterTest {
    private static final Checks CHECKS = new Checks("FilterTest");

    public static void main(String[] args) {
        names();
        numbersAndTruths();
        mail();
        items();
        junctions();
        CHECKS.end();
    }

    private static void finds(String filter, String want) {
        CHECKS.anew("{\"name\":\"Anna\",\"age\":5,\"on\":true,\"mail\":[{\"v\":\"x\"},{\"v\":\"Yes\",\"p\":true}]}",
            "{\"name\":\"bob\",\"age\":-3,\"mail\":[{\"v\":\"yes\",\"p\":false}]}",
            "{\"name\":\"_c\\\"/\",\"on\":false}");
        CHECKS.finds(filter.replace('\'', '"'), want);
    }

    private static void names() {
        finds("name pr", "1 2 3");
        finds("name eq 'ANNA'", "1");
        finds("NAME EQ 'anna'", "1");
        finds("name eq 'ann'", "");
        finds("name eq 'annab'", "");
        finds("name eq ''", "");
        finds("name eq 'a name longer than any may be'", "");
        finds("name ne 'anna'", "2 3");
        finds("name co 'NN'", "1");
        finds("name co 'b'", "2");
        finds("name co ''", "1 2 3");
        finds("name co 'nan'", "");
        finds("name sw 'aN'", "1");
        finds("name sw 'n'", "");
        finds("name sw ''", "1 2 3");
        finds("name sw 'annas'", "");
        finds("name ew 'NA'", "1");
        finds("name ew 'ann'", "");
        finds("name ew ''", "1 2 3");
        finds("name ew 'banna'", "");
        finds("name eq '_c\\\"\\/'", "3");
        namesInOrder();
    }

    private static void namesInOrder() {
        // _ (95) lies between the capital and the small letters, and thus before all as small.
        finds("name lt 'A'", "3");
        finds("name gt '_'", "1 2 3");
        finds("name gt 'ANNA'", "2");
        finds("name ge 'ANNA'", "1 2");
        finds("name lt 'ANNA'", "3");
        finds("name le 'ANNA'", "1 3");
        finds("name gt 'ann'", "1 2");
        finds("name lt 'annas'", "1 3");
        finds("name gt ''", "1 2 3");
        finds("name le ''", "");
    }

    private static void numbersAndTruths() {
        finds("id eq 2", "2");
        finds("id ge 2", "2 3");
        finds("version eq 1", "1 2 3");
        finds("version gt 1", "");
        finds("age pr", "1 2");
        finds("age eq 5", "1");
        finds("age eq -3", "2");
        finds("age ne 5", "2 3");
        finds("age gt -3", "1");
        finds("age ge -3", "1 2");
        finds("age lt 5", "2");
        finds("age le 5", "1 2");
        finds("age lt 999999999", "1 2");
        finds("on pr", "1 3");
        finds("on eq true", "1");
        finds("on eq False", "3");
        finds("on ne true", "2 3");
        finds("on ne false", "1 2");
    }

    private static void mail() {
        finds("mail pr", "1 2");
        finds("mail eq 'yes'", "2");
        finds("mail.v eq 'Yes'", "1");
        finds("mail . V ne 'Yes'", "2 3");
        finds("mail ne 'x'", "2 3");
        finds("mail co 'es'", "1 2");
        finds("mail sw 'y'", "2");
        finds("mail ew 'S'", "");
        finds("mail co ''", "1 2");
        finds("mail gt 'Yes'", "1 2");
        finds("mail le 'Yes'", "1");
        finds("mail.v lt 'Yesterday'", "1");
        finds("mail.v pr", "1 2");
        finds("mail.p pr", "1 2");
        finds("mail.p eq true", "1");
        finds("mail.p eq false", "2");
        finds("mail.p ne true", "2 3");
        finds("mail.p ne false", "1 3");
    }

    private static void items() {
        finds("mail[v pr]", "1 2");
        finds("mail[v eq 'x' and p eq true]", "");
        finds("mail eq 'x' and mail.p eq true", "1");
        finds("mail [ v co 'es' and p eq true ]", "1");
        finds("mail[not(p pr)]", "1");
        finds("not(mail[p pr])", "3");
        finds("mail[p ne true]", "1 2");
        finds("mail[v ne 'x']", "1 2");
        finds("not (mail[v eq 'x']) and mail[v pr]", "2");
        finds("mail[v eq 'x'] and mail[p eq true]", "1");
        finds("mail[(v eq 'x' or v eq 'yes') and (p pr)]", "2");
        finds("mail[v lt 'Z']", "1");
        finds("mail[v sw '' and v ew '']", "1 2");
    }

    private static void junctions() {
        finds("id eq 1 or id eq 3", "1 3");
        finds("id eq 1 and id eq 3", "");
        // and binds closer than or, on either side of it
        finds("id eq 1 or id eq 2 and id eq 3", "1");
        finds("id eq 2 and id eq 3 or id eq 1", "1");
        finds("(id eq 1 or id eq 2) and id ge 2", "2");
        finds("id ge 2 and (id eq 1 or id eq 2)", "2");
        finds("not(id eq 1)", "2 3");
        finds("not(id eq 1) and id le 2", "2");
        finds("not(id eq 1 or id eq 2)", "3");
        finds("not(not(id eq 1))", "1");
        finds("id eq 1 OR id eq 2 Or id eq 3", "1 2 3");
        finds("id ge 1 AND id ge 2 and id ge 3", "3");
        finds("", "1 2 3");
        finds("   ", "1 2 3");
    }
}
