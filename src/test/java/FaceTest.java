import java.lang.reflect.Constructor;
import java.lang.reflect.Executable;
import java.lang.reflect.Field;
import java.lang.reflect.Member;
import java.lang.reflect.Method;
import java.lang.reflect.Modifier;
import java.util.Arrays;
import java.util.Set;
import java.util.TreeSet;

/** The public face and nothing beside it. */
public final class FaceTest {
    private static final Checks CHECKS = new Checks("FaceTest");

    public static void main(String[] args) {
        constants();
        methods();
        nothingElse();
        CHECKS.end();
    }

    private static void constants() {
        CHECKS.due("SYNTAX", PeopleStore.SYNTAX, -400);
        CHECKS.due("UNFIT", PeopleStore.UNFIT, -401);
        CHECKS.due("MUTABILITY", PeopleStore.MUTABILITY, -402);
        CHECKS.due("NOTARGET", PeopleStore.NOTARGET, -403);
        CHECKS.due("MISSING", PeopleStore.MISSING, -404);
        CHECKS.due("UNIQUE", PeopleStore.UNIQUE, -409);
        CHECKS.due("VERSION", PeopleStore.VERSION, -412);
        CHECKS.due("FULL", PeopleStore.FULL, -413);
    }

    private static void methods() {
        Set<String> found = new TreeSet<>();
        for (Method each : PeopleStore.class.getDeclaredMethods()) {
            if (Modifier.isPublic(each.getModifiers())) {
                found.add(each.getReturnType() + " " + each.getName() + parametersOf(each));
            }
        }
        for (Constructor<?> each : PeopleStore.class.getDeclaredConstructors()) {
            found.add("new" + parametersOf(each));
        }
        Set<String> want = Set.of("new[]", "boolean put[int, int]", "int create[]",
            "int replace[int, int]", "int patch[int, int]", "int remove[int, int]",
            "int query[int, boolean, int, int]", "int page[int]", "int resources[]",
            "int version[int]", "int length[int]", "int letter[int, int]");
        CHECKS.due("the methods", found, new TreeSet<>(want));
    }

    private static String parametersOf(Executable each) {
        return Arrays.toString(each.getParameterTypes());
    }

    private static void nothingElse() {
        int modifiers = PeopleStore.class.getModifiers();
        CHECKS.due("final", Modifier.isFinal(modifiers) && Modifier.isPublic(modifiers), true);
        Set<String> publicNames = new TreeSet<>();
        for (Method each : PeopleStore.class.getDeclaredMethods()) {
            if (Modifier.isPublic(each.getModifiers())) {
                publicNames.add(each.getName());
            }
        }
        for (Method each : PeopleStore.class.getDeclaredMethods()) {
            boolean isPublic = Modifier.isPublic(each.getModifiers());
            CHECKS.due(each + " hides well", isPublic || isPrivate(each), true);
            CHECKS.due(each + " has a name of its own",
                isPublic || !publicNames.contains(each.getName()), true);
        }
        int constants = 0;
        for (Field each : PeopleStore.class.getDeclaredFields()) {
            boolean isPublic = Modifier.isPublic(each.getModifiers());
            constants += isPublic ? 1 : 0;
            CHECKS.due(each + " hides well", isPublic || isPrivate(each), true);
        }
        CHECKS.due("public fields", constants, 8);
    }

    private static boolean isPrivate(Member member) {
        return Modifier.isPrivate(member.getModifiers());
    }
}
