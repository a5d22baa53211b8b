/** The edges that the document's terms name for patches: rows, targets, attributes but mail, and versions. */
public final class EdgesOfPatchTest {
    private static final Checks CHECKS = new Checks("EdgesOfPatchTest");
    private static final String ALL = "'name':'Ann','age':5,'on':true,'mail':[{'v':'x'},{'v':'y','p':true}]";
    private static final String MAIL = "'mail':[{'v':'x'},{'v':'y','p':true}]";
    private static final String TWELVE = "abcdefghijkl";

    public static void main(String[] args) {
        howManyOperations();
        newlinesBetween();
        newlinesAround();
        newlinesWithin();
        signs();
        values();
        targetOfNothing();
        targets();
        readOnly();
        nameStays();
        takenAway();
        takenAwayWhenNotThere();
        lengthOfName();
        kinds();
        nothingNeedsAnObject();
        nothingWithNone();
        nothingInOrder();
        nothingPassesOver();
        nothingWithOtherNames();
        nothingWithItsSign();
        CHECKS.end();
    }

    private static void begin() {
        CHECKS.anew(Checks.quoted("{" + ALL + "}"));
    }

    private static void makes(String patch, String rest) {
        begin();
        int version = rest.equals(ALL) ? 1 : 2;
        CHECKS.patches(Checks.quoted(patch), version);
        CHECKS.stands("", "{'id':1,'version':" + version + "," + rest + "}");
    }

    private static void refused(String patch, int error) {
        begin();
        CHECKS.patches(Checks.quoted(patch), error);
        CHECKS.stands("", "{'id':1,'version':1," + ALL + "}");
    }

    private static void wrong(String patch) {
        refused(patch, PeopleStore.SYNTAX);
    }

    private static void howManyOperations() {
        CHECKS.about("A PATCH is one or more OPERATIONS");
        wrong("");
        wrong(" ");
        makes("-on", "'name':'Ann','age':5," + MAIL);
        makes("-on\n-age", "'name':'Ann'," + MAIL);
        makes("-on" + "\n-on".repeat(29), "'name':'Ann','age':5," + MAIL);
        makes("-on" + "\n-on".repeat(28) + "\n-age", "'name':'Ann'," + MAIL);
        refused("-on" + "\n-on".repeat(28) + "\n-id", PeopleStore.MUTABILITY);
        wrong("-on" + "\n-on".repeat(29) + "\n");
    }

    private static void newlinesBetween() {
        CHECKS.about("with one newline between two of them");
        makes("-on\n-age", "'name':'Ann'," + MAIL);
        makes("-on \n -age", "'name':'Ann'," + MAIL);
        wrong("-on-age");
        wrong("-on -age");
        wrong("-on\n\n-age");
        wrong("-on\n \n-age");
        wrong("-on,-age");
        wrong("-on\nage");
        wrong("=age:6+on:false");
        wrong("=age:6 =on:false");
    }

    private static void newlinesAround() {
        CHECKS.about("none ahead of the first and behind the last");
        wrong("\n");
        wrong("\n\n");
        wrong("\n-on");
        wrong(" \n-on");
        wrong("-on\n");
        wrong("-on\n ");
        wrong("-on\n-age\n");
        wrong("=age:6\n");
    }

    private static void newlinesWithin() {
        CHECKS.about("(a newline is a token)");
        wrong("-\non");
        wrong("=age\n:6");
        wrong("=age:\n6");
        wrong("=\nage:6");
        wrong("-mail\n.p");
        wrong("-mail[v\npr]");
        wrong("+mail:[\n]");
        wrong("=name:'a\nb'");
    }

    private static void signs() {
        CHECKS.about("each + (add), - (remove) or = (replace)");
        makes("+age:6", "'name':'Ann','age':6,'on':true," + MAIL);
        makes("=age:6", "'name':'Ann','age':6,'on':true," + MAIL);
        makes("-age", "'name':'Ann','on':true," + MAIL);
        for (String each : new String[] {"", ":", ".", ",", "(", "[", "{", "*", "add ", "5", "'+'", "++", "--",
                "==", "+="}) {
            wrong(each + "age:6");
            wrong(each + "age");
        }
    }

    private static void values() {
        CHECKS.about("and for + and = : and a value");
        for (String sign : new String[] {"+", "="}) {
            for (String target : new String[] {"", "age", "id", "name", "mail", "mail.v", "mail[v pr]",
                    "mail[v pr].p"}) {
                wrong(sign + target);
                wrong(sign + target + ":");
                wrong(sign + target + " 5");
                wrong(sign + target + "=5");
                wrong(sign + target + "::5");
                wrong(sign + target + ":5 5");
                wrong(sign + target + ":05");
                wrong(sign + target + ":x");
            }
        }
        for (String target : new String[] {"age", "id", "name", "mail", "mail.v", "mail[v pr]",
                "mail[v pr].p"}) {
            wrong("-" + target + ":5");
            wrong("-" + target + ":");
            wrong("-" + target + " 5");
        }
    }

    private static void targetOfNothing() {
        CHECKS.about("TARGETS: nothing (for + and = )");
        makes("+:{}", ALL);
        makes("=:{}", ALL);
        wrong("-");
        wrong("-:{}");
        wrong("-{}");
        wrong("- ");
        wrong("-on\n-");
    }

    private static void targets() {
        CHECKS.about("an attribute's name; mail, . , v or p; mail, [ , OR, ] ; mail, [ , OR, ] , . , v or p");
        refused("-id", PeopleStore.MUTABILITY);
        refused("-version", PeopleStore.MUTABILITY);
        refused("-name", PeopleStore.MUTABILITY);
        refused("-mail.v", PeopleStore.MUTABILITY);
        refused("-mail[v pr].v", PeopleStore.MUTABILITY);
        makes("-mail.p", "'name':'Ann','age':5,'on':true,'mail':[{'v':'x'},{'v':'y'}]");
        makes("-mail[v pr].p", "'name':'Ann','age':5,'on':true,'mail':[{'v':'x'},{'v':'y'}]");
        makes("-mail[v pr]", "'name':'Ann','age':5,'on':true");
        makes("-mail", "'name':'Ann','age':5,'on':true");
        for (String each : new String[] {"v", "p", "zz", "nam", "names", "'age'", "true", "5", "mail.",
                "mail.zz", "mail.id", "mail.mail", "mail.v.p", "mail..v", "name.v", "age.p", "id.v",
                "age[v pr]", "v[v pr]", "mail[]", "mail[", "mail]", "mail[v]", "mail[v pr", "mail[v pr)",
                "mail(v pr)", "mail[v pr].", "mail[v pr].id", "mail[v pr]v", "mail[v pr][v pr]", "mail.v[v pr]",
                "mail[v pr].v.p", "mail[name pr]", "mail[mail pr]", "(age)", "mail v", "mail[v pr or]",
                "mail[v eq 5]", "mail[p gt true]", "mail[p eq 'true']", "age,on", "age on"}) {
            wrong("-" + each);
            wrong("=" + each + ":true");
        }
    }

    private static void readOnly() {
        CHECKS.about("MUTABILITY for id and version (ahead of the value)");
        for (String target : new String[] {"id", "version"}) {
            refused("-" + target, PeopleStore.MUTABILITY);
            for (String value : new String[] {"1", "2", "0", "'x'", "true", "{}", "[]", "[[[]]]"}) {
                refused("+" + target + ":" + value, PeopleStore.MUTABILITY);
                refused("=" + target + ":" + value, PeopleStore.MUTABILITY);
            }
        }
    }

    private static void nameStays() {
        CHECKS.about("MUTABILITY for - with name");
        refused("-name", PeopleStore.MUTABILITY);
        refused("-NAME", PeopleStore.MUTABILITY);
        refused("=name:'b'\n-name", PeopleStore.MUTABILITY);
    }

    private static void takenAway() {
        CHECKS.about("- takes age or on away");
        makes("-age", "'name':'Ann','on':true," + MAIL);
        makes("-on", "'name':'Ann','age':5," + MAIL);
    }

    private static void takenAwayWhenNotThere() {
        CHECKS.about("- takes age or on away, if it is there");
        for (String target : new String[] {"age", "on"}) {
            CHECKS.anew("{\"name\":\"a\"}");
            CHECKS.patches("-" + target, 1);
            CHECKS.stands("", "{'id':1,'version':1,'name':'a'}");
            CHECKS.patches("-" + target + "\n-" + target, 1);
            CHECKS.patches("+" + target + ":" + (target.equals("on") ? "false" : "0"), 2);
            CHECKS.patches("-" + target, 3);
            CHECKS.patches("-" + target, 3);
            CHECKS.stands("", "{'id':1,'version':3,'name':'a'}");
        }
    }

    private static void lengthOfName() {
        CHECKS.about("+ and = give the value: UNFIT if it is not of the kind and length (name)");
        for (String sign : new String[] {"+", "="}) {
            refused(sign + "name:''", PeopleStore.UNFIT);
            for (int many : new int[] {1, 2, 11, 12}) {
                String name = TWELVE.substring(0, many);
                makes(sign + "name:'" + name + "'", "'name':'" + name + "','age':5,'on':true," + MAIL);
            }
            refused(sign + "name:'" + TWELVE + "m'", PeopleStore.UNFIT);
            makes(sign + "name:'" + "\\'".repeat(12) + "'",
                "'name':'" + "\\'".repeat(12) + "','age':5,'on':true," + MAIL);
            refused(sign + "name:'" + "\\'".repeat(13) + "'", PeopleStore.UNFIT);
        }
    }

    private static void kinds() {
        CHECKS.about("+ and = give the value: UNFIT if it is not of the kind and length");
        for (String sign : new String[] {"+", "="}) {
            for (String value : new String[] {"5", "true", "{}", "[]", "['a']"}) {
                refused(sign + "name:" + value, PeopleStore.UNFIT);
            }
            for (String value : new String[] {"'5'", "''", "true", "{}", "[]", "[5]"}) {
                refused(sign + "age:" + value, PeopleStore.UNFIT);
            }
            for (String value : new String[] {"0", "1", "'true'", "''", "{}", "[]", "[true]"}) {
                refused(sign + "on:" + value, PeopleStore.UNFIT);
            }
            for (String value : new String[] {"0", "-1", "999999999", "-999999999"}) {
                makes(sign + "age:" + value, "'name':'Ann','age':" + value + ",'on':true," + MAIL);
            }
            makes(sign + "on:false", "'name':'Ann','age':5,'on':false," + MAIL);
        }
    }

    private static void nothingNeedsAnObject() {
        CHECKS.about("Nothing: the value must be an object (UNFIT)");
        for (String value : new String[] {"5", "0", "true", "false", "'a'", "''", "[]", "[{}]",
                "[{'age':6}]"}) {
            refused("+:" + value, PeopleStore.UNFIT);
            refused("=:" + value, PeopleStore.UNFIT);
        }
    }

    private static void nothingWithNone() {
        CHECKS.about("each of its members (of an object without any, none)");
        makes("+:{}", ALL);
        makes("=:{}", ALL);
        makes("=:{}\n-on", "'name':'Ann','age':5," + MAIL);
    }

    private static void nothingInOrder() {
        CHECKS.about("each of its members, in order, is done as an operation");
        String five = "[{'v':'a'},{'v':'b'},{'v':'c'},{'v':'d'},{'v':'e'}]";
        refused("=:{'mail':" + five + ",'age':'x'}", PeopleStore.FULL);
        refused("=:{'age':'x','mail':" + five + "}", PeopleStore.UNFIT);
        refused("=:{'age':6,'on':false,'name':''}", PeopleStore.UNFIT);
        refused("=:{'name':'','age':6,'on':false}", PeopleStore.UNFIT);
        makes("=:{'on':false,'name':'b','age':6}", "'name':'b','age':6,'on':false," + MAIL);
        makes("+:{'mail':[{'v':'z','p':true}],'age':6}",
            "'name':'Ann','age':6,'on':true,'mail':[{'v':'x'},{'v':'y','p':false},{'v':'z','p':true}]");
    }

    private static void nothingPassesOver() {
        CHECKS.about("those named id and version are passed over");
        for (String value : new String[] {"1", "9", "'x'", "true", "{}", "[]", "[[]]"}) {
            makes("+:{'id':" + value + "}", ALL);
            makes("=:{'Version':" + value + ",'age':6}", "'name':'Ann','age':6,'on':true," + MAIL);
            makes("=:{'age':6,'ID':" + value + ",'on':false}", "'name':'Ann','age':6,'on':false," + MAIL);
        }
        wrong("=:{'id':[[[]]]}");
        wrong("=:{'id':1,'ID':1}");
    }

    private static void nothingWithOtherNames() {
        CHECKS.about("another name is UNFIT");
        for (String name : new String[] {"", "v", "p", "zz", "nam", "mail.v", "mail[v pr]", "age ", "ages"}) {
            refused("+:{'" + name + "':5}", PeopleStore.UNFIT);
            refused("=:{'age':6,'" + name + "':true}", PeopleStore.UNFIT);
            refused("=:{'" + name + "':'x','age':6}", PeopleStore.UNFIT);
        }
    }

    private static void nothingWithItsSign() {
        CHECKS.about("with the same sign and the attribute of its name as the target");
        String other = "'name':'Ann','age':5,'on':true,";
        makes("+:{'mail':{'v':'z'}}", other + "'mail':[{'v':'x'},{'v':'y','p':true},{'v':'z'}]");
        makes("=:{'mail':{'v':'z'}}", other + "'mail':[{'v':'z'}]");
        makes("+:{'mail':[]}", ALL);
        makes("=:{'mail':[]}", "'name':'Ann','age':5,'on':true");
        refused("+:{'mail':5}", PeopleStore.UNFIT);
        refused("+:{'mail':{'p':true}}", PeopleStore.UNFIT);
        refused("+:{'mail':[{'v':'a'},{'v':'b'},{'v':'c'}]}", PeopleStore.FULL);
        makes("+:{'mail':[{'v':'a'},{'v':'b'}]}",
            other + "'mail':[{'v':'x'},{'v':'y','p':true},{'v':'a'},{'v':'b'}]");
    }
}
