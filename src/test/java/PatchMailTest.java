/** Promise 5: operations on mail and on its items. */
public final class PatchMailTest {
    private static final Checks CHECKS = new Checks("PatchMailTest");
    /** How x, y and z begin: without p, with p true, and with p false. */
    private static final String THREE = "{'v':'x'},{'v':'y','p':true},{'v':'z','p':false}";

    public static void main(String[] args) {
        all();
        added();
        addedToOthers();
        fullMail();
        parts();
        primaryParts();
        chosen();
        chosenChanged();
        sameV();
        CHECKS.end();
    }

    private static String quoted(String text) {
        return text.replace('\'', '"');
    }

    private static void begin(String items) {
        CHECKS.anew(quoted("{'name':'a','mail':[" + items + "]}"));
    }

    /** The items that the patch makes of those at the beginning. */
    private static void makes(String before, String patch, String after) {
        begin(before);
        CHECKS.patches(quoted(patch), before.equals(after) ? 1 : 2);
        String mail = after.isEmpty() ? "" : ",'mail':[" + after + "]";
        CHECKS.is(1, before.equals(after) ? 1 : 2, quoted("'name':'a'" + mail));
    }

    private static void makes(String patch, String after) {
        makes(THREE, patch, after);
    }

    private static void wrong(String before, String patch, int error) {
        begin(before);
        CHECKS.patches(quoted(patch), error);
        String mail = before.isEmpty() ? "" : ",'mail':[" + before + "]";
        CHECKS.is(1, 1, quoted("'name':'a'" + mail));
    }

    private static void wrong(String patch, int error) {
        wrong(THREE, patch, error);
    }

    private static void all() {
        makes("-mail", "");
        makes("", "-mail", "");
        makes("=mail:[]", "");
        makes("+mail:[]", THREE);
        makes("=mail:{'v':'q'}", "{'v':'q'}");
        makes("=mail:[{'v':'q'},{'v':'x','p':true}]", "{'v':'q'},{'v':'x','p':true}");
        makes("=mail:[{'v':'y'}]", "{'v':'y'}");
    }

    private static void added() {
        makes("+mail:{'v':'q'}", THREE + ",{'v':'q'}");
        makes("+mail:[{'p':false,'V':'q'}]", THREE + ",{'v':'q','p':false}");
        makes("", "+mail:[{'v':'b'},{'v':'a'}]", "{'v':'b'},{'v':'a'}");
        String[] unfit = {
            "5", "true", "'q'", "{}", "{'p':true}", "{'v':''}", "{'v':'abcdefghijklm'}", "{'v':5}",
            "{'v':'q','p':1}", "{'v':'q','zz':1}", "{'v':'q','id':1}", "['q']", "[{}]", "[[]]",
            "[{'v':'q'},{'p':true}]", "[{'v':'q'},5]", "[[{'v':'q'}]]"
        };
        for (String value : unfit) {
            wrong("+mail:" + value, PeopleStore.UNFIT);
            wrong("=mail:" + value, PeopleStore.UNFIT);
        }
    }

    private static void addedToOthers() {
        makes("+mail:{'v':'x'}", THREE);
        makes("+mail:{'v':'y'}", THREE);
        makes("+mail:{'v':'X'}", THREE + ",{'v':'X'}");
        makes("+mail:{'v':'x','p':false}", "{'v':'x','p':false},{'v':'y','p':true},{'v':'z','p':false}");
        makes("+mail:{'v':'y','p':false}", "{'v':'x'},{'v':'y','p':false},{'v':'z','p':false}");
        makes("+mail:{'v':'y','p':true}", THREE);
        makes("+mail:{'v':'x','p':true}", "{'v':'x','p':true},{'v':'y','p':false},{'v':'z','p':false}");
        makes("+mail:{'v':'q','p':true}",
            "{'v':'x'},{'v':'y','p':false},{'v':'z','p':false},{'v':'q','p':true}");
        // Of an array with two the foremost item keeps it, not the foremost of the array.
        makes("+mail:[{'v':'z','p':true},{'v':'x','p':true}]",
            "{'v':'x','p':true},{'v':'y','p':false},{'v':'z','p':false}");
        makes("+mail:[{'v':'z','p':true},{'v':'y','p':true}]", THREE);
        makes("", "=mail:[{'v':'b','p':true},{'v':'a','p':true}]", "{'v':'b','p':true},{'v':'a','p':false}");
        givenMoreThanOnce();
    }

    private static void givenMoreThanOnce() {
        makes("", "+mail:[{'v':'a'},{'v':'b'},{'v':'a','p':false}]", "{'v':'a','p':false},{'v':'b'}");
        makes("", "+mail:[{'v':'a','p':true},{'v':'a'}]", "{'v':'a','p':true}");
        makes("", "+mail:[{'v':'a','p':true},{'v':'b','p':true},{'v':'a','p':false}]",
            "{'v':'a','p':false},{'v':'b','p':true}");
        makes("+mail:[{'v':'x','p':true},{'v':'x','p':false}]",
            "{'v':'x','p':false},{'v':'y','p':true},{'v':'z','p':false}");
        makes("+mail:[{'v':'x','p':false},{'v':'x','p':true}]",
            "{'v':'x','p':true},{'v':'y','p':false},{'v':'z','p':false}");
        // What one operation gave does not count in the next.
        makes("+mail:{'v':'x','p':true}\n+mail:{'v':'z','p':true}",
            "{'v':'x','p':false},{'v':'y','p':false},{'v':'z','p':true}");
    }

    private static void fullMail() {
        String four = "{'v':'a'},{'v':'b'},{'v':'c'},{'v':'d'}";
        makes("", "+mail:[" + four + "]", four);
        wrong(four, "+mail:{'v':'e'}", PeopleStore.FULL);
        wrong("+mail:[{'v':'e'},{'v':'f'}]", PeopleStore.FULL);
        wrong("", "+mail:[" + four + ",{'v':'e'}]", PeopleStore.FULL);
        wrong("", "=mail:[" + four + ",{'v':'e'}]", PeopleStore.FULL);
        wrong("", "+mail:[" + four + ",{'v':'e'},{'p':true}]", PeopleStore.UNFIT);
        makes("", "+mail:[" + four + ",{'v':'b','p':true},{'v':'a'}]",
            "{'v':'a'},{'v':'b','p':true},{'v':'c'},{'v':'d'}");
        makes(four, "+mail:{'v':'d','p':false}", "{'v':'a'},{'v':'b'},{'v':'c'},{'v':'d','p':false}");
        makes(four, "=mail:[{'v':'e'},{'v':'a'}]", "{'v':'e'},{'v':'a'}");
    }

    private static void parts() {
        makes("{'v':'x','p':true}", "=mail.v:'q'", "{'v':'q','p':true}");
        makes("{'v':'x'}", "+mail.v:'abcdefghijkl'", "{'v':'abcdefghijkl'}");
        makes("=mail[v eq 'x'].v:'q'", "{'v':'q'},{'v':'y','p':true},{'v':'z','p':false}");
        wrong("", "=mail.v:'q'", PeopleStore.NOTARGET);
        wrong("", "+mail.v:5", PeopleStore.NOTARGET);
        wrong("", "+mail.p:true", PeopleStore.NOTARGET);
        wrong("=mail[v eq 'q'].v:'r'", PeopleStore.NOTARGET);
        wrong("+mail[v eq 'q'].p:5", PeopleStore.NOTARGET);
        wrong("=mail[v eq 'x'].v:5", PeopleStore.UNFIT);
        wrong("=mail[v eq 'x'].v:''", PeopleStore.UNFIT);
        wrong("=mail[v eq 'x'].v:'abcdefghijklm'", PeopleStore.UNFIT);
        wrong("=mail[v eq 'x'].p:'true'", PeopleStore.UNFIT);
        wrong("=mail.p:1", PeopleStore.UNFIT);
        wrong("-mail.v", PeopleStore.MUTABILITY);
        wrong("", "-mail.v", PeopleStore.MUTABILITY);
        wrong("-mail[v eq 'q'].v", PeopleStore.MUTABILITY);
    }

    private static void primaryParts() {
        makes("-mail.p", "{'v':'x'},{'v':'y'},{'v':'z'}");
        makes("", "-mail.p", "");
        makes("-mail[v eq 'q'].p", THREE);
        makes("-mail[p eq false].p", "{'v':'x'},{'v':'y','p':true},{'v':'z'}");
        makes("=mail.p:false", "{'v':'x','p':false},{'v':'y','p':false},{'v':'z','p':false}");
        makes("+mail.p:true", "{'v':'x','p':true},{'v':'y','p':false},{'v':'z','p':false}");
        makes("=mail[v ge 'y'].p:true", THREE);
        makes("=mail[v eq 'z'].p:true", "{'v':'x'},{'v':'y','p':false},{'v':'z','p':true}");
        makes("=mail[v ne 'y'].p:true", "{'v':'x','p':true},{'v':'y','p':false},{'v':'z','p':false}");
        makes("=mail[v ne 'y'].p:false", "{'v':'x','p':false},{'v':'y','p':true},{'v':'z','p':false}");
    }

    private static void chosen() {
        makes("-mail[v eq 'y']", "{'v':'x'},{'v':'z','p':false}");
        makes("-mail[p pr]", "{'v':'x'}");
        makes("-mail[not(p pr)]", "{'v':'y','p':true},{'v':'z','p':false}");
        makes("-mail[v pr]", "");
        makes("-mail[v eq 'X']", THREE);
        makes("", "-mail[v pr]", "");
        makes("-mail[v eq 'x' or p eq false]", "{'v':'y','p':true}");
        makes("-mail[p ne true]", "{'v':'y','p':true}");
    }

    private static void chosenChanged() {
        makes("=mail[v eq 'y']:{'v':'q'}", "{'v':'x'},{'v':'q'},{'v':'z','p':false}");
        makes("=mail[v eq 'y']:{'v':'y'}", "{'v':'x'},{'v':'y'},{'v':'z','p':false}");
        makes("=mail[v eq 'z']:{'v':'q','p':true}", "{'v':'x'},{'v':'y','p':false},{'v':'q','p':true}");
        makes("+mail[v eq 'y']:{'v':'q'}", "{'v':'x'},{'v':'q','p':true},{'v':'z','p':false}");
        makes("+mail[v eq 'y']:{}", THREE);
        makes("+mail[p eq true]:{'p':false}", "{'v':'x'},{'v':'y','p':false},{'v':'z','p':false}");
        makes("+mail[v pr]:{'p':true}", "{'v':'x','p':true},{'v':'y','p':false},{'v':'z','p':false}");
        makes("+mail[v ge 'y']:{'p':true}", THREE);
        wrong("=mail[v eq 'q']:{'v':'r'}", PeopleStore.NOTARGET);
        wrong("+mail[v eq 'q']:5", PeopleStore.NOTARGET);
        wrong("", "+mail[v pr]:{}", PeopleStore.NOTARGET);
        wrong("=mail[v eq 'y']:{'p':true}", PeopleStore.UNFIT);
        wrong("=mail[v eq 'y']:{}", PeopleStore.UNFIT);
        String[] unfit = {"5", "'q'", "true", "[]", "[{'v':'q'}]", "{'v':''}", "{'p':5}", "{'zz':1}"};
        for (String value : unfit) {
            wrong("=mail[v eq 'y']:" + value, PeopleStore.UNFIT);
            wrong("+mail[v eq 'y']:" + value, PeopleStore.UNFIT);
        }
    }

    private static void sameV() {
        wrong("=mail.v:'q'", PeopleStore.UNFIT);
        wrong("=mail[v eq 'x'].v:'y'", PeopleStore.UNFIT);
        wrong("=mail[v ge 'y']:{'v':'q'}", PeopleStore.UNFIT);
        wrong("+mail[v eq 'x']:{'v':'z'}", PeopleStore.UNFIT);
        // It counts behind each operation, even if the next one would mend it.
        wrong("=mail[v eq 'x'].v:'y'\n-mail", PeopleStore.UNFIT);
        makes("=mail[v eq 'x'].v:'Y'", "{'v':'Y'},{'v':'y','p':true},{'v':'z','p':false}");
        makes("=mail[v eq 'x'].v:'x'", THREE);
    }
}
