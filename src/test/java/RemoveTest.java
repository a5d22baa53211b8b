/** Promise 6: remove. */
public final class RemoveTest {
    private static final Checks CHECKS = new Checks("RemoveTest");

    public static void main(String[] args) {
        CHECKS.anew("{\"name\":\"a\"}", "{\"name\":\"b\"}", "{\"name\":\"c\"}");
        CHECKS.patches(2, 0, "+age:1", 2);
        CHECKS.removes(2, 1, PeopleStore.VERSION);
        CHECKS.removes(2, 3, PeopleStore.VERSION);
        CHECKS.removes(2, -2, PeopleStore.VERSION);
        CHECKS.due("resources", CHECKS.store().resources(), 3);
        CHECKS.removes(2, 2, 0);
        CHECKS.removes(2, 2, PeopleStore.MISSING);
        CHECKS.removes(2, 9, PeopleStore.MISSING);
        CHECKS.removes(0, 0, PeopleStore.MISSING);
        CHECKS.removes(-1, 0, PeopleStore.MISSING);
        CHECKS.removes(4, 0, PeopleStore.MISSING);
        isThereNoMore();
        bufferStays();
        CHECKS.end();
    }

    private static void isThereNoMore() {
        CHECKS.due("version", CHECKS.store().version(2), PeopleStore.MISSING);
        CHECKS.due("length", CHECKS.store().length(2), PeopleStore.MISSING);
        CHECKS.due("letter", CHECKS.store().letter(2, 0), 0);
        CHECKS.due("resources", CHECKS.store().resources(), 2);
        CHECKS.finds("", "1 3");
        CHECKS.patches(2, 0, "-age", PeopleStore.MISSING);
        CHECKS.creates("{\"name\":\"B\"}", 4);
        CHECKS.finds("", "1 3 4");
        CHECKS.is(3, 1, "\"name\":\"c\"");
    }

    private static void bufferStays() {
        CHECKS.anew("{\"name\":\"a\"}", "{\"name\":\"b\"}");
        CHECKS.say("{\"name\"");
        CHECKS.removes(1, 5, PeopleStore.VERSION);
        CHECKS.say(":\"");
        CHECKS.removes(1, 0, 0);
        CHECKS.say("a\"");
        CHECKS.removes(1, 0, PeopleStore.MISSING);
        CHECKS.creates("}", 3);
        CHECKS.is(3, 1, "\"name\":\"a\"");
    }
}
