/** The edges that the document's terms name for operations on mail and its items. */
public final class EdgesOfMailTest {
    private static final Checks CHECKS = new Checks("EdgesOfMailTest");
    private static final String THREE = "{'v':'x'},{'v':'y','p':true},{'v':'z','p':false}";
    private static final String TWELVE = "abcdefghijkl";
    private static final String[] SIGNS = {"+", "="};
    /** Values that are no item's object. */
    private static final String[] NO_ITEMS = {"5", "true", "'q'", "[]", "[{'v':'q'}]", "{'v':''}",
        "{'v':'" + TWELVE + "m'}", "{'v':5}", "{'p':0}", "{'zz':1}", "{'v':'q','id':1}",
        "{'v':'q','p':'true'}"};

    public static void main(String[] args) {
        allAway();
        replaced();
        added();
        addedToTheSame();
        unfitMail();
        allAreLookedAtFirst();
        noneIsAnArray();
        fifth();
        fifthOfAnArray();
        partsOfNone();
        partsThatDoNotFit();
        lengthOfV();
        takingV();
        takingP();
        partsOfSome();
        someAway();
        someOfNone();
        becomes();
        gets();
        unfitForItems();
        unfitBehindNoTarget();
        foremostPrimary();
        primaryWhereItWasSo();
        lastCounts();
        primaryOfAnArray();
        othersBecomeFalse();
        withoutPrimaryNoneChanges();
        twoOfOneV();
        twoOfOneVInBetween();
        twoOfOneVForEachMember();
        CHECKS.end();
    }

    private static String mail(String items) {
        return items.isEmpty() ? "" : ",'mail':[" + items + "]";
    }

    private static void makes(String before, String patch, String after) {
        CHECKS.anew(Checks.quoted("{'name':'a'" + mail(before) + "}"));
        int version = before.equals(after) ? 1 : 2;
        CHECKS.patches(Checks.quoted(patch), version);
        CHECKS.stands("", "{'id':1,'version':" + version + ",'name':'a'" + mail(after) + "}");
    }

    private static void refused(String before, String patch, int error) {
        CHECKS.anew(Checks.quoted("{'name':'a'" + mail(before) + "}"));
        CHECKS.patches(Checks.quoted(patch), error);
        CHECKS.stands("", "{'id':1,'version':1,'name':'a'" + mail(before) + "}");
    }

    /** Items a, b, .. without p. */
    private static String items(int many) {
        StringBuilder text = new StringBuilder();
        for (int i = 0; i < many; i++) {
            text.append(i == 0 ? "" : ",").append("{'v':'").append((char) ('a' + i)).append("'}");
        }
        return text.toString();
    }

    private static void allAway() {
        CHECKS.about("mail: - takes all items away");
        for (int many = 0; many <= 4; many++) {
            makes(items(many), "-mail", "");
        }
        makes(THREE, "-mail\n-mail", "");
    }

    private static void replaced() {
        CHECKS.about("= does that, and then what + does");
        makes(THREE, "=mail:[]", "");
        makes("", "=mail:[]", "");
        makes(THREE, "=mail:{'v':'q'}", "{'v':'q'}");
        makes(THREE, "=mail:[{'v':'y'}]", "{'v':'y'}");
        makes(THREE, "=mail:[" + items(4) + "]", items(4));
        makes(items(4), "=mail:[{'v':'d'},{'v':'c'}]", "{'v':'d'},{'v':'c'}");
        makes(THREE, "=mail:[" + THREE + "]", THREE);
    }

    private static void added() {
        CHECKS.about("one by one each comes behind the others");
        makes("", "+mail:{'v':'a'}", "{'v':'a'}");
        makes(THREE, "+mail:{'v':'a'}", THREE + ",{'v':'a'}");
        makes("{'v':'m'}", "+mail:[{'v':'z'},{'v':'a','p':false},{'v':'M'}]",
            "{'v':'m'},{'v':'z'},{'v':'a','p':false},{'v':'M'}");
    }

    private static void addedToTheSame() {
        CHECKS.about("where an item (also of this array, before) has its v that one gets its p, if it has one");
        makes(THREE, "+mail:{'v':'x'}", THREE);
        makes(THREE, "+mail:{'v':'y'}", THREE);
        makes(THREE, "+mail:{'v':'x','p':false}", "{'v':'x','p':false},{'v':'y','p':true},{'v':'z','p':false}");
        makes(THREE, "+mail:{'v':'y','p':false}", "{'v':'x'},{'v':'y','p':false},{'v':'z','p':false}");
        makes(THREE, "+mail:{'v':'X','p':false}", THREE + ",{'v':'X','p':false}");
        makes("", "+mail:[{'v':'a'},{'v':'a'}]", "{'v':'a'}");
        makes("", "+mail:[{'v':'a'},{'v':'a','p':false}]", "{'v':'a','p':false}");
        makes("", "=mail:[{'v':'a','p':false},{'v':'b'},{'v':'a'}]", "{'v':'a','p':false},{'v':'b'}");
        makes(THREE, "=mail:[{'v':'x','p':false},{'v':'x'}]", "{'v':'x','p':false}");
    }

    private static void unfitMail() {
        CHECKS.about("+ has a whole item's object, or an array of such; UNFIT if the value is none of these");
        for (String sign : SIGNS) {
            for (String value : new String[] {"5", "true", "'q'", "{}", "{'p':true}", "{'v':''}",
                    "{'v':'" + TWELVE + "m'}", "{'v':5}", "{'v':'q','p':1}", "{'v':'q','zz':1}",
                    "{'v':'q','id':1}", "['q']", "[{}]", "[[]]", "[[{'v':'q'}]]"}) {
                refused(THREE, sign + "mail:" + value, PeopleStore.UNFIT);
                refused("", sign + "mail:" + value, PeopleStore.UNFIT);
            }
            makes("", sign + "mail:{'v':'" + TWELVE + "'}", "{'v':'" + TWELVE + "'}");
        }
    }

    private static void allAreLookedAtFirst() {
        CHECKS.about("(looked at for all of them first");
        for (String sign : SIGNS) {
            for (String value : new String[] {"5", "{}", "{'p':true}", "{'v':''}", "[]"}) {
                refused("{'v':'a'}", sign + "mail:[{'v':'q'}," + value + "]", PeopleStore.UNFIT);
                refused("{'v':'a'}", sign + "mail:[" + value + ",{'v':'q'}]", PeopleStore.UNFIT);
                refused("", sign + "mail:[" + items(5) + "," + value + "]", PeopleStore.UNFIT);
            }
        }
        refused(items(4), "+mail:[{'v':'q'},{'v':5}]", PeopleStore.UNFIT);
    }

    private static void noneIsAnArray() {
        CHECKS.about("an array of none is one)");
        makes(THREE, "+mail:[]", THREE);
        makes("", "+mail:[]", "");
        makes(items(4), "+mail:[]", items(4));
        makes(items(4), "=mail:[]", "");
    }

    private static void fifth() {
        CHECKS.about("FULL when a fifth would come");
        for (int many = 0; many <= 3; many++) {
            makes(items(many), "+mail:{'v':'q'}", items(many) + (many == 0 ? "" : ",") + "{'v':'q'}");
        }
        refused(items(4), "+mail:{'v':'q'}", PeopleStore.FULL);
        refused(items(4), "+mail:[{'v':'q'}]", PeopleStore.FULL);
        refused(items(4), "+mail:{'v':'A'}", PeopleStore.FULL);
        makes(items(4), "+mail:{'v':'d'}", items(4));
        makes(items(4), "+mail:{'v':'d','p':false}", items(3) + ",{'v':'d','p':false}");
        refused(items(4), "=mail[v eq 'a'].p:true\n+mail:{'v':'q'}", PeopleStore.FULL);
    }

    private static void fifthOfAnArray() {
        CHECKS.about("FULL when a fifth would come (of an array)");
        for (String sign : SIGNS) {
            makes("", sign + "mail:[" + items(4) + "]", items(4));
            refused("", sign + "mail:[" + items(5) + "]", PeopleStore.FULL);
            makes("", sign + "mail:[" + items(4) + ",{'v':'a'},{'v':'d'}]", items(4));
            refused("", sign + "mail:[" + items(4) + ",{'v':'a'},{'v':'q'}]", PeopleStore.FULL);
        }
        makes("{'v':'q'}", "+mail:[" + items(3) + "]", "{'v':'q'}," + items(3));
        refused("{'v':'q'}", "+mail:[" + items(4) + "]", PeopleStore.FULL);
        makes("{'v':'q'}", "=mail:[" + items(4) + "]", items(4));
        makes("{'v':'b'}", "+mail:[" + items(4) + "]", "{'v':'b'},{'v':'a'},{'v':'c'},{'v':'d'}");
    }

    private static void partsOfNone() {
        CHECKS.about("mail . v, mail . p, mail [ OR ] . v, mail [ OR ] . p: NOTARGET if there are none");
        for (String sign : SIGNS) {
            refused("", sign + "mail.v:'q'", PeopleStore.NOTARGET);
            refused("", sign + "mail.p:true", PeopleStore.NOTARGET);
            refused("", sign + "mail[v pr].v:'q'", PeopleStore.NOTARGET);
            refused("", sign + "mail[v pr].p:false", PeopleStore.NOTARGET);
            refused(THREE, sign + "mail[v eq 'q'].v:'r'", PeopleStore.NOTARGET);
            refused(THREE, sign + "mail[v eq 'q'].p:true", PeopleStore.NOTARGET);
            refused(THREE, sign + "mail[not(v pr)].p:true", PeopleStore.NOTARGET);
            refused(THREE, "-mail\n" + sign + "mail.p:true", PeopleStore.NOTARGET);
            refused("", sign + "mail.v:5", PeopleStore.NOTARGET);
            refused(THREE, sign + "mail[v eq 'q'].p:5", PeopleStore.NOTARGET);
        }
        makes("{'v':'x'}", "=mail.p:false", "{'v':'x','p':false}");
    }

    private static void partsThatDoNotFit() {
        CHECKS.about("they get the value (UNFIT if it is not of the kind and length)");
        for (String sign : SIGNS) {
            for (String path : new String[] {"mail", "mail[v eq 'x']"}) {
                for (String value : new String[] {"5", "true", "''", "{}", "[]", "{'v':'q'}", "['q']"}) {
                    refused("{'v':'x'}", sign + path + ".v:" + value, PeopleStore.UNFIT);
                }
                for (String value : new String[] {"0", "1", "'true'", "''", "{}", "[]", "{'p':true}",
                        "[true]"}) {
                    refused("{'v':'x'}", sign + path + ".p:" + value, PeopleStore.UNFIT);
                }
            }
        }
    }

    private static void lengthOfV() {
        CHECKS.about("they get the value (UNFIT if it is not of the ... length)");
        for (String sign : SIGNS) {
            for (String path : new String[] {"mail", "mail[v pr]"}) {
                refused("{'v':'x','p':true}", sign + path + ".v:''", PeopleStore.UNFIT);
                for (int many : new int[] {1, 11, 12}) {
                    String v = TWELVE.substring(0, many);
                    makes("{'v':'x','p':true}", sign + path + ".v:'" + v + "'", "{'v':'" + v + "','p':true}");
                }
                refused("{'v':'x','p':true}", sign + path + ".v:'" + TWELVE + "m'", PeopleStore.UNFIT);
            }
        }
    }

    private static void takingV() {
        CHECKS.about("- : MUTABILITY for v, even without items");
        refused("", "-mail.v", PeopleStore.MUTABILITY);
        refused("", "-mail[v pr].v", PeopleStore.MUTABILITY);
        refused(THREE, "-mail.v", PeopleStore.MUTABILITY);
        refused(THREE, "-mail[v eq 'x'].v", PeopleStore.MUTABILITY);
        refused(THREE, "-mail[v eq 'q'].v", PeopleStore.MUTABILITY);
    }

    private static void takingP() {
        CHECKS.about("for p they have none then");
        makes("", "-mail.p", "");
        makes("", "-mail[v pr].p", "");
        makes("{'v':'x'}", "-mail.p", "{'v':'x'}");
        makes(THREE, "-mail.p", "{'v':'x'},{'v':'y'},{'v':'z'}");
        makes(THREE, "-mail[v eq 'q'].p", THREE);
        makes(THREE, "-mail[v eq 'x'].p", THREE);
        makes(THREE, "-mail[p eq true].p", "{'v':'x'},{'v':'y'},{'v':'z','p':false}");
    }

    private static void partsOfSome() {
        CHECKS.about("of all items, or of those that match");
        for (String sign : SIGNS) {
            makes(THREE, sign + "mail.p:false", "{'v':'x','p':false},{'v':'y','p':false},{'v':'z','p':false}");
            makes(THREE, sign + "mail[v eq 'y'].p:false", "{'v':'x'},{'v':'y','p':false},{'v':'z','p':false}");
            makes(THREE, sign + "mail[v le 'y'].p:false",
                "{'v':'x','p':false},{'v':'y','p':false},{'v':'z','p':false}");
            makes(THREE, sign + "mail[v eq 'z'].v:'q'", "{'v':'x'},{'v':'y','p':true},{'v':'q','p':false}");
            // Which match is seen before one changes.
            makes(THREE, sign + "mail[p ne false].p:false",
                "{'v':'x','p':false},{'v':'y','p':false},{'v':'z','p':false}");
        }
    }

    private static void someAway() {
        CHECKS.about("mail [ OR ]: - takes those that match away");
        makes(THREE, "-mail[v eq 'x']", "{'v':'y','p':true},{'v':'z','p':false}");
        makes(THREE, "-mail[v eq 'z']", "{'v':'x'},{'v':'y','p':true}");
        makes(THREE, "-mail[v ne 'y']", "{'v':'y','p':true}");
        makes(THREE, "-mail[v pr]", "");
        makes(items(4), "-mail[v eq 'b' or v eq 'c']", "{'v':'a'},{'v':'d'}");
        makes(items(4), "-mail[v gt 'a']", "{'v':'a'}");
        makes(THREE, "-mail[v eq 'q']", THREE);
        makes(THREE, "-mail[v eq 'X']", THREE);
        makes("", "-mail[v pr]", "");
    }

    private static void someOfNone() {
        CHECKS.about("mail [ OR ]: + and = : NOTARGET if there are none");
        for (String sign : SIGNS) {
            refused("", sign + "mail[v pr]:{'v':'q'}", PeopleStore.NOTARGET);
            refused(THREE, sign + "mail[v eq 'q']:{'v':'r'}", PeopleStore.NOTARGET);
            refused(THREE, sign + "mail[v eq 'X']:{'v':'r'}", PeopleStore.NOTARGET);
            refused(THREE, "-mail[v eq 'x']\n" + sign + "mail[v eq 'x']:{'v':'r'}", PeopleStore.NOTARGET);
        }
    }

    private static void becomes() {
        CHECKS.about("with = each becomes what a whole item's object says");
        makes(THREE, "=mail[v eq 'x']:{'v':'q'}", "{'v':'q'},{'v':'y','p':true},{'v':'z','p':false}");
        makes(THREE, "=mail[v eq 'y']:{'v':'q'}", "{'v':'x'},{'v':'q'},{'v':'z','p':false}");
        makes(THREE, "=mail[v eq 'z']:{'v':'z'}", "{'v':'x'},{'v':'y','p':true},{'v':'z'}");
        makes(THREE, "=mail[v eq 'x']:{'p':false,'v':'x'}",
            "{'v':'x','p':false},{'v':'y','p':true},{'v':'z','p':false}");
        refused(THREE, "=mail[v eq 'x']:{}", PeopleStore.UNFIT);
        refused(THREE, "=mail[v eq 'x']:{'p':true}", PeopleStore.UNFIT);
    }

    private static void gets() {
        CHECKS.about("with + each gets what an item's object has (perhaps nothing)");
        makes(THREE, "+mail[v eq 'y']:{}", THREE);
        makes(THREE, "+mail[v pr]:{}", THREE);
        makes(THREE, "+mail[v eq 'y']:{'v':'q'}", "{'v':'x'},{'v':'q','p':true},{'v':'z','p':false}");
        makes(THREE, "+mail[v eq 'y']:{'p':false}", "{'v':'x'},{'v':'y','p':false},{'v':'z','p':false}");
        makes(THREE, "+mail[v eq 'z']:{'v':'q','p':true}", "{'v':'x'},{'v':'y','p':false},{'v':'q','p':true}");
        makes(THREE, "+mail[v pr]:{'p':false}", "{'v':'x','p':false},{'v':'y','p':false},{'v':'z','p':false}");
    }

    private static void unfitForItems() {
        CHECKS.about("mail [ OR ]: UNFIT ... if the value is not that");
        for (String sign : SIGNS) {
            for (String value : NO_ITEMS) {
                refused(THREE, sign + "mail[v eq 'y']:" + value, PeopleStore.UNFIT);
            }
            makes("{'v':'x'}", sign + "mail[v pr]:{'v':'" + TWELVE + "'}", "{'v':'" + TWELVE + "'}");
        }
    }

    private static void unfitBehindNoTarget() {
        CHECKS.about("UNFIT, behind NOTARGET");
        for (String sign : SIGNS) {
            for (String value : NO_ITEMS) {
                refused(THREE, sign + "mail[v eq 'q']:" + value, PeopleStore.NOTARGET);
                refused("", sign + "mail[v pr]:" + value, PeopleStore.NOTARGET);
            }
        }
    }

    private static void foremostPrimary() {
        CHECKS.about("If an operation gives p true to items, the foremost of these among the items keeps it");
        for (String sign : SIGNS) {
            makes(items(1), sign + "mail.p:true", "{'v':'a','p':true}");
            makes(items(2), sign + "mail.p:true", "{'v':'a','p':true},{'v':'b','p':false}");
            makes(items(4), sign + "mail.p:true",
                "{'v':'a','p':true},{'v':'b','p':false},{'v':'c','p':false},{'v':'d','p':false}");
            makes(items(4), sign + "mail[v gt 'b'].p:true",
                "{'v':'a'},{'v':'b'},{'v':'c','p':true},{'v':'d','p':false}");
            makes(THREE, sign + "mail[v ne 'y'].p:true",
                "{'v':'x','p':true},{'v':'y','p':false},{'v':'z','p':false}");
        }
        makes(items(3), "+mail[v ge 'b']:{'p':true}", "{'v':'a'},{'v':'b','p':true},{'v':'c','p':false}");
    }

    private static void primaryWhereItWasSo() {
        CHECKS.about("(also where it was so");
        makes(THREE, "=mail[v ge 'y'].p:true", THREE);
        makes(THREE, "+mail[v ge 'y']:{'p':true}", THREE);
        makes(THREE, "+mail:[{'v':'z','p':true},{'v':'y','p':true}]", THREE);
        makes("{'v':'a','p':true},{'v':'b'}", "=mail.p:true", "{'v':'a','p':true},{'v':'b','p':false}");
        makes(THREE, "+mail:{'v':'y','p':true}", THREE);
    }

    private static void lastCounts() {
        CHECKS.about("if it gives an item p more than once, the last counts)");
        makes("", "+mail:[{'v':'a','p':true},{'v':'a','p':false}]", "{'v':'a','p':false}");
        makes("", "+mail:[{'v':'a','p':false},{'v':'a','p':true}]", "{'v':'a','p':true}");
        makes("", "+mail:[{'v':'a','p':true},{'v':'a'}]", "{'v':'a','p':true}");
        makes("", "=mail:[{'v':'a','p':true},{'v':'b','p':true},{'v':'a','p':false}]",
            "{'v':'a','p':false},{'v':'b','p':true}");
        makes(THREE, "+mail:[{'v':'x','p':true},{'v':'x','p':false}]",
            "{'v':'x','p':false},{'v':'y','p':true},{'v':'z','p':false}");
        makes(THREE, "+mail:[{'v':'x','p':true},{'v':'z','p':true},{'v':'x','p':false}]",
            "{'v':'x','p':false},{'v':'y','p':false},{'v':'z','p':true}");
    }

    private static void primaryOfAnArray() {
        CHECKS.about("(of an array with two, too)");
        makes("", "+mail:[{'v':'a','p':true},{'v':'b','p':true}]", "{'v':'a','p':true},{'v':'b','p':false}");
        makes("", "=mail:[{'v':'a'},{'v':'b','p':true},{'v':'c','p':true}]",
            "{'v':'a'},{'v':'b','p':true},{'v':'c','p':false}");
        makes(THREE, "+mail:[{'v':'z','p':true},{'v':'x','p':true}]",
            "{'v':'x','p':true},{'v':'y','p':false},{'v':'z','p':false}");
        makes("{'v':'x'}", "+mail:[{'v':'y','p':true},{'v':'x','p':true}]",
            "{'v':'x','p':true},{'v':'y','p':false}");
    }

    private static void othersBecomeFalse() {
        CHECKS.about("for all other items whose p is true it becomes false");
        makes(THREE, "+mail:{'v':'q','p':true}",
            "{'v':'x'},{'v':'y','p':false},{'v':'z','p':false},{'v':'q','p':true}");
        makes(THREE, "+mail:{'v':'x','p':true}", "{'v':'x','p':true},{'v':'y','p':false},{'v':'z','p':false}");
        makes(THREE, "=mail[v eq 'z'].p:true", "{'v':'x'},{'v':'y','p':false},{'v':'z','p':true}");
        makes(THREE, "=mail[v eq 'z']:{'v':'q','p':true}", "{'v':'x'},{'v':'y','p':false},{'v':'q','p':true}");
        makes(THREE, "+mail[v eq 'x']:{'p':true}",
            "{'v':'x','p':true},{'v':'y','p':false},{'v':'z','p':false}");
        makes(THREE, "+:{'mail':{'v':'x','p':true}}",
            "{'v':'x','p':true},{'v':'y','p':false},{'v':'z','p':false}");
        makes(THREE, "=mail[v eq 'x'].p:true\n=mail[v eq 'z'].p:true",
            "{'v':'x','p':false},{'v':'y','p':false},{'v':'z','p':true}");
    }

    private static void withoutPrimaryNoneChanges() {
        CHECKS.about("If an operation gives p true (and if not, the others keep theirs)");
        makes(THREE, "=mail[v eq 'x'].p:false", "{'v':'x','p':false},{'v':'y','p':true},{'v':'z','p':false}");
        makes(THREE, "+mail:{'v':'q','p':false}", THREE + ",{'v':'q','p':false}");
        makes(THREE, "-mail[v eq 'z'].p", "{'v':'x'},{'v':'y','p':true},{'v':'z'}");
        makes(THREE, "=mail[v eq 'y'].v:'q'", "{'v':'x'},{'v':'q','p':true},{'v':'z','p':false}");
        makes(THREE, "=mail[v eq 'x'].p:true\n=mail[v eq 'x'].p:false\n=mail[v eq 'y'].p:true",
            "{'v':'x','p':false},{'v':'y','p':true},{'v':'z','p':false}");
    }

    private static void twoOfOneV() {
        CHECKS.about("If two items have the same v after an operation, it is UNFIT");
        for (String sign : SIGNS) {
            refused(THREE, sign + "mail.v:'q'", PeopleStore.UNFIT);
            refused(THREE, sign + "mail.v:'x'", PeopleStore.UNFIT);
            refused(THREE, sign + "mail[v eq 'x'].v:'z'", PeopleStore.UNFIT);
            refused(THREE, sign + "mail[v ne 'x'].v:'q'", PeopleStore.UNFIT);
            refused(THREE, sign + "mail[v eq 'z']:{'v':'x'}", PeopleStore.UNFIT);
            refused(THREE, sign + "mail[v ge 'y']:{'v':'q'}", PeopleStore.UNFIT);
            makes("{'v':'x'}", sign + "mail.v:'q'", "{'v':'q'}");
            makes(THREE, sign + "mail[v eq 'x'].v:'x'", THREE);
            makes(THREE, sign + "mail[v eq 'x'].v:'Z'", "{'v':'Z'},{'v':'y','p':true},{'v':'z','p':false}");
            makes(items(2), sign + "mail[v eq 'a'].v:'bb'", "{'v':'bb'},{'v':'b'}");
        }
    }

    private static void twoOfOneVInBetween() {
        CHECKS.about("after an operation (also if a later one would mend it)");
        refused(THREE, "=mail[v eq 'x'].v:'y'\n-mail", PeopleStore.UNFIT);
        refused(THREE, "=mail.v:'q'\n=mail:{'v':'q'}", PeopleStore.UNFIT);
        makes(THREE, "-mail[v eq 'y']\n=mail[v eq 'x'].v:'y'", "{'v':'y'},{'v':'z','p':false}");
        makes(items(2), "=mail[v eq 'a'].v:'c'\n=mail[v eq 'b'].v:'a'\n=mail[v eq 'c'].v:'b'",
            "{'v':'b'},{'v':'a'}");
    }

    private static void twoOfOneVForEachMember() {
        CHECKS.about("(With nothing as the target, this is looked at for each member.)");
        makes(THREE, "+:{'mail':{'v':'z','p':true},'age':5,'id':1}\n-age",
            "{'v':'x'},{'v':'y','p':false},{'v':'z','p':true}");
        makes("", "+:{'mail':[{'v':'a','p':true},{'v':'b','p':true}]}",
            "{'v':'a','p':true},{'v':'b','p':false}");
        makes("", "=:{'mail':[{'v':'a','p':true},{'v':'b','p':true},{'v':'a','p':false}]}",
            "{'v':'a','p':false},{'v':'b','p':true}");
        makes(THREE, "=:{'mail':[{'v':'a'},{'v':'a'}]}", "{'v':'a'}");
    }
}
