/** Promise 1: no resources, an empty buffer, an empty page. */
public final class NewObjectTest {
    private static final Checks CHECKS = new Checks("NewObjectTest");

    public static void main(String[] args) {
        CHECKS.due("resources", CHECKS.store().resources(), 0);
        CHECKS.due("page(0)", CHECKS.store().page(0), PeopleStore.MISSING);
        CHECKS.due("version(1)", CHECKS.store().version(1), PeopleStore.MISSING);
        CHECKS.due("query of nothing", CHECKS.store().query(0, false, 1, 9), 0);
        CHECKS.anew();
        CHECKS.creates("{\"name\":\"a\"}", 1);
        storesStandAlone();
        CHECKS.end();
    }

    private static void storesStandAlone() {
        CHECKS.anew("{\"name\":\"a\"}");
        PeopleStore another = new PeopleStore();
        CHECKS.say("{\"name\":");
        CHECKS.due("resources of another", another.resources(), 0);
        CHECKS.due("create of another", another.create(), PeopleStore.SYNTAX);
        CHECKS.creates("\"b\"}", 2);
    }
}
