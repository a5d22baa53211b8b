/** The edges that promise 5 names: patch as a call. */
public final class EdgesOfPatchCallTest {
    private static final Checks CHECKS = new Checks("EdgesOfPatchCallTest");
    private static final String ANN_IS =
        "{'id':1,'version':2,'name':'Ann','age':5,'on':true,'mail':[{'v':'x'},{'v':'y','p':true}]}";
    private static final String BOB_IS = "{'id':2,'version':1,'name':'Bob'}";
    private static final int FAR = Integer.MAX_VALUE;
    private static final int NEAR = Integer.MIN_VALUE;
    /** What may be done with Ann. */
    private static final String[] FINE = {"=name:'c'", "=age:6", "-age", "-on", "-mail", "=mail:{'v':'q'}",
        "+mail:{'v':'q','p':true}", "-mail[v eq 'x']", "=mail[v eq 'x'].v:'q'", "=mail.p:true", "-mail.p",
        "+mail[v pr]:{'p':false}", "=:{'age':6,'on':false}"};
    /** What may not be done with Ann, nor with what the others above make of her. */
    private static final String[] BAD = {"-id", "=version:1", "-name", "-mail.v", "+age:''", "=name:''",
        "+mail:5", "+:5", "+:{'zz':1}", "=mail[v eq 'zz'].p:true", "+mail[v eq 'zz']:{}"};
    private static final int[] ERRORS = {PeopleStore.MUTABILITY, PeopleStore.MUTABILITY, PeopleStore.MUTABILITY,
        PeopleStore.MUTABILITY, PeopleStore.UNFIT, PeopleStore.UNFIT, PeopleStore.UNFIT, PeopleStore.UNFIT,
        PeopleStore.UNFIT, PeopleStore.NOTARGET, PeopleStore.NOTARGET};

    public static void main(String[] args) {
        used();
        oneAfterTheOther();
        errorsChangeNothing();
        uniqueChangesNothing();
        uniqueAtTheEnd();
        missing();
        otherVersion();
        anyVersion();
        syntaxFirst();
        filtersToo();
        firstError();
        orderOfErrors();
        CHECKS.end();
    }

    /** Ann of version 2, Bob of version 1, and a page with both. */
    private static void begin() {
        CHECKS.anew(Checks.quoted("{'name':'Ann','age':5,'on':true,'mail':[{'v':'x'}]}"), "{\"name\":\"Bob\"}");
        CHECKS.patches(Checks.quoted("+mail:{'v':'y','p':true}"), 2);
        CHECKS.finds("", 0, true, "2 1");
    }

    private static void refused(int id, int version, String text, int error) {
        begin();
        CHECKS.patches(id, version, Checks.quoted(text), error);
        CHECKS.stands("2 1", ANN_IS, BOB_IS);
        CHECKS.bufferIsEmpty();
    }

    private static void refused(String text, int error) {
        refused(1, 2, text, error);
    }

    private static void used() {
        CHECKS.about("patch: Uses the buffer");
        begin();
        CHECKS.patches(1, 2, "=age:6", 3);
        CHECKS.bufferIsEmpty();
        CHECKS.patches(1, 3, "=age:6", 3);
        CHECKS.bufferIsEmpty();
        refused(3, 0, "=age:6", PeopleStore.MISSING);
        refused(1, 1, "=age:6", PeopleStore.VERSION);
        refused(1, 2, "=age", PeopleStore.SYNTAX);
        refused(1, 2, "=age:true", PeopleStore.UNFIT);
        refused(1, 2, "=name:'bob'", PeopleStore.UNIQUE);
    }

    private static void oneAfterTheOther() {
        CHECKS.about("whose operations are done on the resource, one after the other");
        begin();
        String five = "=mail[v eq 'x'].v:'q'\n=mail[v eq 'q'].p:true\n-mail[p eq false]\n=age:6\n=age:7";
        CHECKS.patches(Checks.quoted(five), 3);
        CHECKS.is(1, 3, Checks.quoted("'name':'Ann','age':7,'on':true,'mail':[{'v':'q','p':true}]"));
        CHECKS.patches(Checks.quoted("-mail\n+mail:{'v':'w'}\n=mail.p:false\n-age\n+on:false"), 4);
        CHECKS.is(1, 4, Checks.quoted("'name':'Ann','on':false,'mail':[{'v':'w','p':false}]"));
        begin();
        CHECKS.patches(Checks.quoted("+mail:[{'v':'1'},{'v':'2'}]\n-mail[v eq 'x']\n+mail:{'v':'3'}"), 3);
        refused("+mail:[{'v':'1'},{'v':'2'}]\n+mail:{'v':'3'}\n-mail[v eq 'x']", PeopleStore.FULL);
    }

    private static void errorsChangeNothing() {
        CHECKS.about("with an error of one of them nothing is changed");
        for (String fine : FINE) {
            for (int i = 0; i < BAD.length; i++) {
                refused(fine + "\n" + BAD[i], ERRORS[i]);
            }
            refused(fine + "\n+mail:[{'v':'1'},{'v':'2'},{'v':'3'},{'v':'4'},{'v':'5'}]", PeopleStore.FULL);
        }
        refused("=:{'age':6,'on':false,'name':5}", PeopleStore.UNFIT);
        refused("+mail:[{'v':'1'},{'v':'2'},{'v':'3'}]", PeopleStore.FULL);
        refused("=mail.v:'q'", PeopleStore.UNFIT);
        refused(BAD[0] + "\n" + FINE[0], ERRORS[0]);
    }

    private static void uniqueChangesNothing() {
        CHECKS.about("with UNIQUE at the end nothing is changed");
        for (String fine : FINE) {
            refused(fine + "\n=name:'BOB'", PeopleStore.UNIQUE);
        }
        refused("+:{'name':'Bob','age':6}", PeopleStore.UNIQUE);
    }

    private static void uniqueAtTheEnd() {
        CHECKS.about("UNIQUE at the end (and not before)");
        begin();
        CHECKS.patches("=name:\"Bob\"\n=name:\"Cy\"", 3);
        CHECKS.patches("=name:\"bob\"\n=age:6\n=name:\"Cy\"", 4);
        CHECKS.patches("=name:\"Bob\"\n=name:\"Cy\"", 4);
        CHECKS.patches("=name:\"CY\"", 5);
        CHECKS.patches(2, 0, "=name:\"cy\"", PeopleStore.UNIQUE);
        CHECKS.patches(2, 0, "=name:\"ann\"", 2);
        CHECKS.patches(2, 0, "=name:\"Ann\"", 3);
    }

    private static void missing() {
        CHECKS.about("patch: MISSING");
        for (int id : new int[] {0, -1, 3, NEAR, FAR}) {
            refused(id, 0, "=age:6", PeopleStore.MISSING);
            refused(id, 7, "=age", PeopleStore.MISSING);
        }
        begin();
        CHECKS.removes(2, 0, 0);
        CHECKS.patches(2, 1, "=age:6", PeopleStore.MISSING);
    }

    private static void otherVersion() {
        CHECKS.about("patch: VERSION as with replace");
        for (int version : new int[] {1, 3, -1, -2, NEAR, FAR}) {
            refused(1, version, "=age:6", PeopleStore.VERSION);
            refused(1, version, "=age:5", PeopleStore.VERSION);
        }
        refused(2, 2, "=age:6", PeopleStore.VERSION);
    }

    private static void anyVersion() {
        CHECKS.about("patch: Answers its version");
        begin();
        CHECKS.patches(1, 0, "=age:6", 3);
        CHECKS.patches(1, 3, "=age:7", 4);
        CHECKS.patches(1, 3, "=age:8", PeopleStore.VERSION);
        CHECKS.patches(1, 4, "=age:7", 4);
        CHECKS.patches(1, 0, "=age:7", 4);
        CHECKS.patches(2, 1, "=age:7", 2);
    }

    private static void syntaxFirst() {
        CHECKS.about("SYNTAX; then the first error of an operation");
        for (String bad : BAD) {
            refused(bad + "\n-", PeopleStore.SYNTAX);
            refused(bad + "\n", PeopleStore.SYNTAX);
            refused(bad + "\n=age:", PeopleStore.SYNTAX);
            refused(bad + "\n=zz:1", PeopleStore.SYNTAX);
            refused("-zz\n" + bad, PeopleStore.SYNTAX);
        }
        for (String text : new String[] {"", " ", "\n", "age", "{}", "{'age':6}", "name pr", "#", "=age:6 7",
                "=age:6;"}) {
            refused(text, PeopleStore.SYNTAX);
        }
    }

    private static void filtersToo() {
        CHECKS.about("SYNTAX (also when a filter in it is not as said)");
        String[] filters = {"", "v", "v eq", "v eq 5", "p eq 'x'", "p co true", "p gt true", "name pr",
            "mail pr", "mail.v pr", "mail[v pr]", "id eq 1", "v pr or", "((((((v pr))))))", "not v pr",
            "v eq []", "v eq {}", "v zz 'x'", "v pr)", "(v pr"};
        for (String filter : filters) {
            refused("-mail[" + filter + "]", PeopleStore.SYNTAX);
            refused("-id\n=mail[" + filter + "].p:true", PeopleStore.SYNTAX);
            refused("+mail[" + filter + "]:{}\n-id", PeopleStore.SYNTAX);
        }
    }

    private static void firstError() {
        CHECKS.about("then the first error of an operation");
        for (int i = 0; i < BAD.length; i++) {
            for (int j = 0; j < BAD.length; j++) {
                refused(BAD[i] + "\n" + BAD[j], ERRORS[i]);
            }
        }
        String five = "+mail:[{'v':'1'},{'v':'2'},{'v':'3'}]";
        refused(five + "\n-id", PeopleStore.FULL);
        refused("-id\n" + five, PeopleStore.MUTABILITY);
        refused(five + "\n=age:''", PeopleStore.FULL);
        refused("=age:''\n" + five, PeopleStore.UNFIT);
    }

    private static void orderOfErrors() {
        CHECKS.about("MISSING; VERSION as with replace; SYNTAX; then the first error of an operation; UNIQUE");
        refused(3, 9, "-", PeopleStore.MISSING);
        refused(3, 0, "-id", PeopleStore.MISSING);
        refused(3, 0, "=name:'Bob'", PeopleStore.MISSING);
        refused(1, 9, "-", PeopleStore.VERSION);
        refused(1, 9, "-id", PeopleStore.VERSION);
        refused(1, 9, "=name:'Bob'", PeopleStore.VERSION);
        refused(1, 2, "=name:'Bob'\n", PeopleStore.SYNTAX);
        for (int i = 0; i < BAD.length; i++) {
            refused("=name:'Bob'\n" + BAD[i], ERRORS[i]);
            refused(BAD[i] + "\n=name:'Bob'", ERRORS[i]);
        }
    }
}
