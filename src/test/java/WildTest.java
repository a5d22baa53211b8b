import java.util.Random;

/** No call ever throws, whatever it is given, and a refused one changes no resource. */
public final class WildTest {
    private static final Checks CHECKS = new Checks("WildTest");
    private static final int RUNS = 4000;
    private static final int STEPS = 6;
    private static final String[] SCRAPS = {
        "{", "}", "[", "]", "(", ")", ":", ",", ".", "+", "-", "=", "\n", " ", "\"", "\\", "0", "12",
        "-5", "1234567890", "true", "false", "not", "and", " or ", "pr", " eq ", "ne", "co", "gt",
        "id", "version", "name", "age", "on", "mail", "v", "p", "\"name\":", "\"mail\":[", "\"v\":",
        "\"p\":", "\"x\"", "\"y\"", "{\"name\":\"a\"}", "{\"v\":\"x\",\"p\":true}", "mail[v pr]", "+mail:",
        "=mail.p:", "-mail[", "name pr", "age gt 3", "((((((", "))))))", "[[[", "]]]", "#"
    };

    public static void main(String[] args) {
        Random random = new Random(20261115);
        for (int run = 0; run < RUNS; run++) {
            wildRun(random);
        }
        CHECKS.end();
    }

    private static void wildRun(Random random) {
        CHECKS.anew("{\"name\":\"n\",\"age\":4,\"mail\":[{\"v\":\"x\"},{\"v\":\"y\",\"p\":true}]}");
        for (int step = 0; step < STEPS; step++) {
            String text = wildText(random);
            String before = state();
            try {
                put(text);
                if (call(CHECKS.store(), random) < 0) {
                    CHECKS.due("state after refused " + text, state(), before);
                }
            } catch (RuntimeException thrown) {
                CHECKS.due("a call with " + text, thrown, "no exception");
            }
        }
    }

    /** Unlike say of Checks, also with texts that find no room. */
    private static void put(String text) {
        for (int from = 0; from < text.length(); from += 4) {
            int to = Math.min(from + 4, text.length());
            CHECKS.store().put(Checks.wordOf(text.substring(from, to)), to - from);
        }
    }

    private static String wildText(Random random) {
        StringBuilder text = new StringBuilder();
        int scraps = 1 + random.nextInt(12);
        for (int i = 0; i < scraps; i++) {
            text.append(SCRAPS[random.nextInt(SCRAPS.length)]);
        }
        return text.toString();
    }

    private static int call(PeopleStore store, Random random) {
        int id = random.nextInt(4);
        int version = random.nextInt(3);
        switch (random.nextInt(6)) {
            case 0: return store.create();
            case 1: return store.replace(id, version);
            case 2: return store.query(random.nextInt(7) - 1, random.nextBoolean(), random.nextInt(), random.nextInt());
            case 3: return random.nextInt(8) == 0 ? store.remove(id, version) : store.page(random.nextInt());
            default: return store.patch(id, version);
        }
    }

    /** In few calls what a change would hardly leave as it was. */
    private static String state() {
        StringBuilder text = new StringBuilder();
        text.append(CHECKS.store().resources());
        for (int id = 0; id <= STEPS + 1; id++) {
            text.append(' ').append(CHECKS.store().version(id));
            text.append(' ').append(CHECKS.store().length(id));
        }
        return text.toString();
    }
}
