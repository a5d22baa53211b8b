/**
 * What the tests share: a store that is spoken to in texts, and the count of answers that are not
 * as due. It also sees to it that no store is asked more often than the document promises for.
 */
final class Checks {
    private static final int CALLS_PROMISED = 512;

    private final String test;
    private PeopleStore store = new PeopleStore();
    private String sentence = "";
    private int calls;
    private int asked;
    private int wrong;

    Checks(String test) {
        this.test = test;
    }

    /** What follows is for these words of the document; they are told with an answer not as due. */
    void about(String words) {
        sentence = " [" + words + "]";
    }

    /** The text with ' for ", which is easier to read in Java. */
    static String quoted(String text) {
        return text.replace('\'', '"');
    }

    /** Goes on with a new store that has a resource of each of these texts. */
    void anew(String... texts) {
        store = new PeopleStore();
        calls = 0;
        for (int i = 0; i < texts.length; i++) {
            creates(texts[i], i + 1);
        }
    }

    PeopleStore store() {
        calls++;
        if (calls > CALLS_PROMISED) {
            throw new IllegalStateException(test + " calls one store too often");
        }
        return store;
    }

    int calls() {
        return calls;
    }

    void due(String what, Object got, Object want) {
        asked++;
        if (!got.equals(want)) {
            wrong++;
            System.out.println(test + ": " + what + " answered " + got + ", due is " + want + sentence);
        }
    }

    /** Puts the text, which must find room, into the buffer. */
    void say(String text) {
        for (int from = 0; from < text.length(); from += 4) {
            int to = Math.min(from + 4, text.length());
            due("put of " + text, store().put(wordOf(text.substring(from, to)), to - from), true);
        }
    }

    static int wordOf(String letters) {
        int word = 0;
        for (char c : letters.toCharArray()) {
            word = word << 8 | c;
        }
        return word;
    }

    void creates(String text, int want) {
        say(text);
        due("create of " + text, store().create(), want);
    }

    void replaces(int id, int version, String text, int want) {
        say(text);
        due("replace of " + id + " by " + text, store().replace(id, version), want);
    }

    void patches(int id, int version, String text, int want) {
        say(text);
        due("patch of " + id + " by " + text, store().patch(id, version), want);
    }

    void patches(String text, int want) {
        patches(1, 0, text, want);
    }

    void removes(int id, int version, int want) {
        due("remove of " + id, store().remove(id, version), want);
    }

    /** The answer of a query for all that match, by id. */
    void queries(String text, int want) {
        say(text);
        due("query of " + text, store().query(0, false, 1, 9), want);
    }

    /** The page of a query, as "1 2 3". */
    void finds(String text, int sort, boolean down, String want) {
        say(text);
        int found = store().query(sort, down, 1, 9);
        String what = "query of " + text + " by " + sort + (down ? " down" : " up");
        due(what, page(), want);
        due(what + " counted", found, want.isEmpty() ? 0 : want.split(" ").length);
    }

    void finds(String text, String want) {
        finds(text, 0, false, want);
    }

    String page() {
        StringBuilder ids = new StringBuilder();
        for (int k = 0; store().page(k) != PeopleStore.MISSING; k++) {
            ids.append(k == 0 ? "" : " ").append(store().page(k));
        }
        return ids.toString();
    }

    String written(int id) {
        int letters = store().length(id);
        StringBuilder text = new StringBuilder();
        for (int k = 0; k < letters; k++) {
            text.append((char) store().letter(id, k));
        }
        return text.toString();
    }

    /** What stands behind the id and version of the resource, which are as said. */
    void is(int id, int version, String rest) {
        String want = "{\"id\":" + id + ",\"version\":" + version + "," + rest + "}";
        due("the resource " + id, written(id), want);
    }

    /** The page is as said, and these resources, written with ' for ", are all that there are. */
    void stands(String page, String... people) {
        due("the page", page(), page);
        due("resources", store().resources(), people.length);
        for (String each : people) {
            int id = Integer.parseInt(each.substring("{'id':".length(), each.indexOf(',')));
            due("the resource " + id, written(id), quoted(each));
        }
    }

    /** All the room is free; this uses the buffer, but the page stays. */
    void bufferIsEmpty() {
        say(" ".repeat(120));
        due("a put behind 120", store().put(' ', 1), false);
        due("query of 120 spaces by no sort", store().query(9, false, 1, 9), PeopleStore.UNFIT);
    }

    void end() {
        System.out.println(test + ": " + asked + " answers, " + wrong + " not as due");
        if (wrong != 0) {
            System.exit(1);
        }
    }
}
