import java.util.ArrayList;
import java.util.List;

/** What the tests share: texts instead of numbers for feed, and the count of wrong answers. */
final class Check {
    private static int wrong = 0;
    private static String sentence = "";
    private static final List<String> quoted = new ArrayList<>();

    private Check() {
    }

    static void due(String call, long got, long want) {
        if (got != want) {
            wrong++;
            System.out.println(sentence + call + " answered " + got + ", due is " + want);
        }
    }

    /** The document's sentence that the next calls are about: its own words, [..] for words left out. */
    static void sentence(String words) {
        quoted.add(words);
        sentence = "\"" + words + "\": ";
    }

    static void sentence(String words, String note) {
        sentence(words);
        sentence = "\"" + words + "\", " + note + ": ";
    }

    /** The next calls are about no one sentence. */
    static void noSentence() {
        sentence = "";
    }

    /** The sentences that tests of this run were about. */
    static List<String> quoted() {
        return quoted;
    }

    static void end() {
        System.out.println(wrong == 0 ? "all answers are as due" : wrong + " answers are not as due");
        if (wrong != 0) {
            System.exit(1);
        }
    }

    /** Feeds a text, one char a byte, filled up with zeros to whole calls. */
    static void feed(QueryText x, String text) {
        for (int at = 0; at < text.length(); at += 20) {
            due("feed of " + text, x.feed(four(text, at), four(text, at + 4), four(text, at + 8),
                    four(text, at + 12), four(text, at + 16)) ? 1 : 0, 1);
        }
    }

    private static int four(String text, int at) {
        int value = 0;
        for (int i = at; i < at + 4; i++) {
            value = value << 8 | (i < text.length() ? text.charAt(i) & 255 : 0);
        }
        return value;
    }

    static int field(QueryText x, int group, int kind, int type, String name) {
        feed(x, name);
        return x.field(group, kind, type, name.length());
    }

    static int query(QueryText x, String text) {
        feed(x, text);
        return x.query(text.length());
    }

    static void stands(QueryText x, String text) {
        due("query " + text, query(x, text), QueryText.NONE);
    }

    /** Written with a mark at the place that is due. */
    static void falls(QueryText x, String marked) {
        int place = marked.indexOf('@');
        String text = marked.substring(0, place) + marked.substring(place + 1);
        due("query " + text, query(x, text), place);
    }

    /** The steps from 0, each as its five parts. */
    static void steps(QueryText x, int[]... parts) {
        due("count(2)", x.count(2), parts.length);
        for (int i = 0; i < parts.length; i++) {
            for (int what = 0; what < 5; what++) {
                due("step(" + i + ", " + what + ")", x.step(i, what), parts[i][what]);
            }
        }
    }

    /** 0 id, 1 name, 2 home { 3 town, 4 since, 5 last { 6 seen } }, 7 orders { 8 total, 9 part { 10 no } }, 11 paid, 12 tags, 13 age, 14 old. */
    static QueryText withSchema() {
        QueryText x = new QueryText();
        due("id", field(x, -1, 0, 1, "id"), 0);
        due("name", field(x, -1, 1, 3, "name"), 1);
        due("home", field(x, -1, 1, 4, "home"), 2);
        due("town", field(x, 2, 0, 3, "town"), 3);
        due("since", field(x, 2, 1, 2, "since"), 4);
        due("last", field(x, 2, 1, 4, "last"), 5);
        due("seen", field(x, 5, 0, 0, "seen"), 6);
        due("orders", field(x, -1, 2, 4, "orders"), 7);
        due("total", field(x, 7, 0, 2, "total"), 8);
        due("part", field(x, 7, 0, 4, "part"), 9);
        due("no", field(x, 9, 0, 1, "no"), 10);
        due("paid", field(x, -1, 1, 0, "paid"), 11);
        due("tags", field(x, -1, 2, 3, "tags"), 12);
        due("age", field(x, -1, 0, 1, "age"), 13);
        due("old", field(x, -1, 0, 0, "old"), 14);
        return x;
    }
}
