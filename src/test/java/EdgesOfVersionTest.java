/** The edges that the document's terms name for versions. */
public final class EdgesOfVersionTest {
    private static final Checks CHECKS = new Checks("EdgesOfVersionTest");
    private static final String ALL =
        "{'name':'Ann','age':5,'on':true,'mail':[{'v':'x'},{'v':'y','p':true},{'v':'z','p':false}]}";
    /** Each is another than ALL in one thing alone. */
    private static final String[] OTHERS = {
        "{'name':'Anna','age':5,'on':true,'mail':[{'v':'x'},{'v':'y','p':true},{'v':'z','p':false}]}",
        "{'name':'An','age':5,'on':true,'mail':[{'v':'x'},{'v':'y','p':true},{'v':'z','p':false}]}",
        "{'name':'Ann','age':6,'on':true,'mail':[{'v':'x'},{'v':'y','p':true},{'v':'z','p':false}]}",
        "{'name':'Ann','age':-5,'on':true,'mail':[{'v':'x'},{'v':'y','p':true},{'v':'z','p':false}]}",
        "{'name':'Ann','on':true,'mail':[{'v':'x'},{'v':'y','p':true},{'v':'z','p':false}]}",
        "{'name':'Ann','age':5,'on':false,'mail':[{'v':'x'},{'v':'y','p':true},{'v':'z','p':false}]}",
        "{'name':'Ann','age':5,'mail':[{'v':'x'},{'v':'y','p':true},{'v':'z','p':false}]}",
        "{'name':'Ann','age':5,'on':true,'mail':[{'v':'x'},{'v':'y','p':true}]}",
        "{'name':'Ann','age':5,'on':true,'mail':[{'v':'y','p':true},{'v':'z','p':false}]}",
        "{'name':'Ann','age':5,'on':true,'mail':[{'v':'x'},{'v':'y','p':true},{'v':'z','p':false},{'v':'w'}]}",
        "{'name':'Ann','age':5,'on':true,'mail':[{'v':'X'},{'v':'y','p':true},{'v':'z','p':false}]}",
        "{'name':'Ann','age':5,'on':true,'mail':[{'v':'x'},{'v':'y','p':true},{'v':'zz','p':false}]}",
        "{'name':'Ann','age':5,'on':true,'mail':[{'v':'x','p':false},{'v':'y','p':true},{'v':'z','p':false}]}",
        "{'name':'Ann','age':5,'on':true,'mail':[{'v':'x'},{'v':'y'},{'v':'z','p':false}]}",
        "{'name':'Ann','age':5,'on':true,'mail':[{'v':'x'},{'v':'y','p':false},{'v':'z','p':false}]}",
        "{'name':'Ann','age':5,'on':true,'mail':[{'v':'x'},{'v':'y','p':true},{'v':'z'}]}",
        "{'name':'Ann','age':5,'on':true}"
    };

    public static void main(String[] args) {
        oneAtFirst();
        replacesThatChange();
        patchesThatChange();
        sameAgain();
        whenItIsOver();
        otherOrder();
        otherCapitals();
        manyCountOnce();
        onlyOwnChanges();
        refusedOnesStay();
        manyVersions();
        CHECKS.end();
    }

    private static void begin() {
        CHECKS.anew(Checks.quoted(ALL));
    }

    private static void replaces(String text, int want) {
        CHECKS.replaces(1, 0, Checks.quoted(text), want);
        CHECKS.due("the version", CHECKS.store().version(1), want);
    }

    private static void patches(String text, int want) {
        CHECKS.patches(1, 0, Checks.quoted(text), want);
        CHECKS.due("the version", CHECKS.store().version(1), want);
    }

    private static void oneAtFirst() {
        CHECKS.about("A VERSION is 1 at first");
        CHECKS.anew("{\"name\":\"a\"}", "{\"name\":\"b\",\"version\":7}");
        CHECKS.due("version(1)", CHECKS.store().version(1), 1);
        CHECKS.due("version(2)", CHECKS.store().version(2), 1);
        CHECKS.patches(2, 0, "+age:1", 2);
        CHECKS.removes(2, 0, 0);
        CHECKS.creates("{\"name\":\"b\"}", 3);
        CHECKS.due("version(3)", CHECKS.store().version(3), 1);
    }

    private static void replacesThatChange() {
        CHECKS.about("grows by 1 when a replace makes the resource another one than it was");
        for (String other : OTHERS) {
            begin();
            replaces(other, 2);
            replaces(other, 2);
            replaces(ALL, 3);
        }
    }

    private static void patchesThatChange() {
        CHECKS.about("grows by 1 when a patch makes the resource another one than it was");
        for (String patch : new String[] {"=name:'Anna'", "=age:6", "=age:0", "-age", "=on:false", "-on",
                "-mail", "-mail[v eq 'x']", "-mail[v eq 'z']", "+mail:{'v':'w'}", "=mail[v eq 'x'].v:'X'",
                "=mail[v eq 'x'].p:false", "=mail[v eq 'y'].p:false", "-mail[v eq 'y'].p", "-mail[v eq 'z'].p",
                "=mail[v eq 'z'].p:true", "=:{'age':6}"}) {
            begin();
            patches(patch, 2);
        }
    }

    private static void sameAgain() {
        CHECKS.about("another one than it was: the same leaves the version");
        begin();
        replaces(ALL, 1);
        replaces("{'mail':[{'v':'x'},{'p':true,'v':'y'},{'v':'z','p':false}],'on':TRUE,'age':5,'name':'Ann'}",
            1);
        replaces("{'id':9,'version':9," + ALL.substring(1), 1);
        for (String patch : new String[] {"=name:'Ann'", "+age:5", "=on:true", "+mail:[]", "+mail:{'v':'x'}",
                "+mail:{'v':'y','p':true}", "=mail[v eq 'y'].p:true", "=mail[v eq 'x'].v:'x'", "+mail[v pr]:{}",
                "+:{}", "=:{'id':9}", "-mail[v eq 'q']", "-mail[v eq 'x'].p",
                "=mail[v eq 'y']:{'v':'y','p':true}"}) {
            patches(patch, 1);
        }
    }

    private static void whenItIsOver() {
        CHECKS.about("another one than it was, when it is over");
        begin();
        patches("-age\n+age:5", 1);
        patches("=name:'b'\n=name:'Ann'", 1);
        patches("-on\n-age\n=:{'on':true,'age':5}", 1);
        patches("+mail:{'v':'w'}\n-mail[v eq 'w']", 1);
        patches("=mail[v eq 'z'].p:true\n=mail[v eq 'y'].p:true", 1);
        patches("-mail\n=mail:[{'v':'x'},{'v':'y','p':true},{'v':'z','p':false}]", 1);
        patches("-age\n+age:6", 2);
    }

    private static void otherOrder() {
        CHECKS.about("(items in another order are another");
        begin();
        replaces("{'name':'Ann','age':5,'on':true,'mail':[{'v':'y','p':true},{'v':'x'},{'v':'z','p':false}]}",
            2);
        replaces("{'name':'Ann','age':5,'on':true,'mail':[{'v':'y','p':true},{'v':'z','p':false},{'v':'x'}]}",
            3);
        patches("-mail[v eq 'y']\n+mail:{'v':'y','p':true}", 4);
        patches("=mail:[{'v':'z','p':false},{'v':'x'},{'v':'y','p':true}]", 4);
        patches("=mail:[{'v':'x'},{'v':'z','p':false},{'v':'y','p':true}]", 5);
    }

    private static void otherCapitals() {
        CHECKS.about("a name with other capitals, too");
        begin();
        patches("=name:'aNN'", 2);
        patches("=name:'aNN'", 2);
        patches("=name:'ANN'", 3);
        replaces("{'name':'ann'}", 4);
        replaces("{'name':'ann'}", 4);
        replaces("{'name':'anN'}", 5);
        CHECKS.is(1, 5, "\"name\":\"anN\"");
    }

    private static void manyCountOnce() {
        CHECKS.about("a patch of many operations counts once)");
        begin();
        patches("=age:6\n=age:7", 2);
        patches("=age:1\n=on:false\n=name:'b'\n-mail", 3);
        patches("=age:2" + "\n=age:3\n=age:2".repeat(8), 4);
        patches("+:{'age':9,'on':true,'name':'c','mail':[{'v':'x'},{'v':'y'}]}", 5);
    }

    private static void onlyOwnChanges() {
        CHECKS.about("grows when a replace or patch makes the resource another one (nothing else does)");
        CHECKS.anew("{\"name\":\"a\"}", "{\"name\":\"b\"}", "{\"name\":\"c\"}");
        CHECKS.patches(2, 0, "+age:1", 2);
        CHECKS.replaces(2, 0, "{\"name\":\"B\"}", 3);
        CHECKS.removes(3, 0, 0);
        CHECKS.creates("{\"name\":\"c\"}", 4);
        CHECKS.finds("name pr", 1, true, "4 2 1");
        CHECKS.stands("4 2 1", "{'id':1,'version':1,'name':'a'}", "{'id':2,'version':3,'name':'B'}",
            "{'id':4,'version':1,'name':'c'}");
    }

    private static void refusedOnesStay() {
        CHECKS.about("a refused replace or patch leaves the version");
        CHECKS.anew(Checks.quoted(ALL), "{\"name\":\"b\"}");
        CHECKS.replaces(1, 2, "{\"name\":\"c\"}", PeopleStore.VERSION);
        CHECKS.replaces(1, 1, "{\"name\":\"c\"", PeopleStore.SYNTAX);
        CHECKS.replaces(1, 1, "{\"name\":\"\"}", PeopleStore.UNFIT);
        CHECKS.replaces(1, 1, "{\"name\":\"B\"}", PeopleStore.UNIQUE);
        CHECKS.patches(1, 2, "=age:6", PeopleStore.VERSION);
        CHECKS.patches(1, 1, "=age:6\n", PeopleStore.SYNTAX);
        CHECKS.patches(1, 1, "=age:6\n=on:1", PeopleStore.UNFIT);
        CHECKS.patches(1, 1, "=age:6\n-name", PeopleStore.MUTABILITY);
        CHECKS.patches(1, 1, "=age:6\n=mail[v eq \"q\"].p:true", PeopleStore.NOTARGET);
        CHECKS.patches(1, 1, "=age:6\n+mail:[{\"v\":\"1\"},{\"v\":\"2\"}]", PeopleStore.FULL);
        CHECKS.patches(1, 1, "=age:6\n=name:\"B\"", PeopleStore.UNIQUE);
        CHECKS.due("version(1)", CHECKS.store().version(1), 1);
        CHECKS.due("version(2)", CHECKS.store().version(2), 1);
        CHECKS.patches(1, 1, "=age:6", 2);
    }

    private static void manyVersions() {
        CHECKS.about("grows by 1 (as often as there are calls)");
        CHECKS.anew("{\"name\":\"a\"}");
        for (int version = 2; version <= 110; version++) {
            CHECKS.patches(1, version - 1, version % 2 == 0 ? "+on:true" : "-on", version);
        }
        CHECKS.due("version(1)", CHECKS.store().version(1), 110);
        CHECKS.is(1, 110, "\"name\":\"a\",\"on\":true");
        CHECKS.queries("version eq 110", 1);
        CHECKS.removes(1, 109, PeopleStore.VERSION);
        CHECKS.removes(1, 111, PeopleStore.VERSION);
        CHECKS.removes(1, 110, 0);
    }
}
