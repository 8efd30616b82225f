/** Promise 3: numbers, names, groups, kinds, types, the 64, and what becomes of tape and query. */
public final class FieldTest {
    public static void main(String[] args) {
        names();
        groupsKindsTypes();
        many();
        tapeAndQuery();
        flatness();
        Check.end();
    }

    private static void names() {
        QueryText x = new QueryText();
        Check.due("a", Check.field(x, -1, 0, 4, "a"), 0);
        Check.due("a again", Check.field(x, -1, 0, 4, "a"), -1);
        Check.due("a in a", Check.field(x, 0, 0, 4, "a"), 1);
        Check.due("a in a again", Check.field(x, 0, 0, 0, "a"), -1);
        Check.due("A", Check.field(x, -1, 0, 0, "A"), 2);
        Check.due("ab", Check.field(x, -1, 0, 0, "ab"), 3);
        Check.due("Z9_z", Check.field(x, -1, 0, 0, "Z9_z"), 4);
        Check.due("16 bytes", Check.field(x, -1, 0, 0, "abcdefghijklmnop"), 5);
        Check.due("17 bytes", Check.field(x, -1, 0, 0, "abcdefghijklmnopq"), -1);
        Check.due("16 others", Check.field(x, -1, 0, 0, "abcdefghijklmnoq"), 6);
        String[] wrong = {"", "1a", "_a", "a b", " a", "a ", "a.b", "a-", "\u00e4", "a\u00e4", "a\n", "-", "a\u0000",
            "@", "[", "`", "{", "a@", "a[", "a`", "a{", "a/", "a:", "a^"};
        for (String name : wrong) {
            Check.due("name '" + name + "'", Check.field(x, -1, 0, 0, name), -1);
        }
        String[] right = {"A0", "Z0", "aAZ", "zaz0", "select", "null", "count", "y_"};
        for (int i = 0; i < right.length; i++) {
            Check.due("name " + right[i], Check.field(x, -1, 0, 0, right[i]), 7 + i);
        }
        Check.feed(x, "abx");
        Check.due("the first n bytes alone", x.field(-1, 0, 0, 2), -1);
        Check.feed(x, "bax");
        Check.due("the first n bytes alone", x.field(-1, 0, 0, 2), 15);
    }

    private static void groupsKindsTypes() {
        QueryText x = new QueryText();
        Check.due("g", Check.field(x, -1, 0, 4, "g"), 0);
        Check.due("b", Check.field(x, -1, 0, 3, "b"), 1);
        int[] noGroups = {1, 2, 63, 64, -2, Integer.MAX_VALUE, Integer.MIN_VALUE};
        for (int group : noGroups) {
            Check.due("group " + group, Check.field(x, group, 0, 0, "c"), -1);
        }
        int[] noKinds = {-1, 3, Integer.MAX_VALUE, Integer.MIN_VALUE};
        for (int kind : noKinds) {
            Check.due("kind " + kind, Check.field(x, 0, kind, 0, "c"), -1);
        }
        int[] noTypes = {-1, 5, Integer.MAX_VALUE, Integer.MIN_VALUE};
        for (int type : noTypes) {
            Check.due("type " + type, Check.field(x, 0, 0, type, "c"), -1);
        }
        int number = 2;
        for (int kind = 0; kind < 3; kind++) {
            for (int type = 0; type < 5; type++) {
                Check.due("kind " + kind + ", type " + type, Check.field(x, 0, kind, type, "c" + number), number);
                number++;
            }
        }
    }

    private static void many() {
        QueryText x = new QueryText();
        for (int i = 0; i < 64; i++) {
            Check.due("field " + i, Check.field(x, -1, 0, 1, "f" + i), i);
        }
        Check.due("the 65th", Check.field(x, -1, 0, 1, "g"), -1);
        Check.feed(x, "g");
        Check.due("the 65th, too few bytes", x.field(-1, 0, 1, 21), -2);
        Check.due("the tape stayed", x.field(-1, 0, 1, 1), -1);
        Check.stands(x, "select f63 where f0 = f63");
        Check.due("item(0, 1)", x.item(0, 1), 63);
    }

    private static void tapeAndQuery() {
        QueryText x = Check.withSchema();
        Check.stands(x, "select count where id = 1");
        Check.feed(x, "select id");
        Check.due("n below 0", x.field(-1, 0, 0, -1), -2);
        Check.due("n far below 0", x.field(-1, 0, 0, Integer.MIN_VALUE), -2);
        Check.due("too many", x.field(-1, 0, 0, 21), -2);
        Check.due("far too many", x.field(-1, 0, 0, Integer.MAX_VALUE), -2);
        Check.due("-2 goes before a wrong type", x.field(-1, 0, 9, 21), -2);
        Check.due("the query stayed", x.count(2), 1);
        Check.due("the tape stayed", x.query(9), -1);
        Check.due("the new query", x.count(4), 0);
        Check.due("a wrong name", Check.field(x, -1, 0, 0, "id"), -1);
        NewObjectTest.answersWithoutQuery(x);
        Check.due("the tape is empty then", x.query(1), -2);
        Check.stands(x, "select id");
        Check.due("a name without bytes", x.field(-1, 0, 0, 0), -1);
        NewObjectTest.answersWithoutQuery(x);
        Check.stands(x, "select id");
        Check.due("a field", Check.field(x, -1, 0, 0, "fresh"), 15);
        NewObjectTest.answersWithoutQuery(x);
        Check.due("the tape is empty then", x.query(1), -2);
    }

    private static void flatness() {
        QueryText x = Check.withSchema();
        Check.stands(x, "select home.last.seen where home.last.seen = true");
        Check.falls(x, "select id where @orders.part.no = 1");
        Check.falls(x, "select id where @tags = 'a'");
        Check.falls(x, "select id where @home.last is null");
    }
}
