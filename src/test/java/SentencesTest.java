/** The document's sentences that name no bound, so that the BoundsOf.. tests leave them out; one method a sentence. */
public final class SentencesTest {
    public static void main(String[] args) {
        conditions();
        literalWords();
        noneIsNone();
        kinds();
        whereFieldsLie();
        countsOfTheQuery();
        itemSorts();
        operators();
        literalsCounted();
        askingChangesNothing();
        objectsApart();
        Check.end();
    }

    private static void kindsOf(String condition, int... due) {
        QueryText x = Bounds.taken("select id where " + condition);
        int[] got = new int[x.count(2)];
        for (int i = 0; i < got.length; i++) {
            got[i] = x.step(i, 0);
        }
        Bounds.row("kinds of " + condition, got, due);
    }

    private static void conditions() {
        Check.sentence("CONDITION: PARTS with or between; PART: TESTS with and between");
        kindsOf("id is null", 0);
        kindsOf("id is null and id is not null", 0, 1, 6);
        kindsOf("id is null or id is not null", 0, 1, 7);
        kindsOf("id is null or id is not null and id = 1", 0, 1, 3, 6, 7);
        kindsOf("id is null and id is not null or id = 1", 0, 1, 6, 3, 7);
        kindsOf("(id is null or id is not null) and id = 1", 0, 1, 7, 3, 6);
        kindsOf("id is null and (id is not null or id = 1)", 0, 1, 3, 7, 6);
        Bounds.refused("select id where id is null @id is null");
        Bounds.refused("select id where id is null @, id is null");
        Bounds.refused("select id where @and id is null");
        Bounds.refused("select id where id is null and @or id is null");
        Bounds.refused("select id where id is null or @and id is null");
        Bounds.refused("select id where id is null or@");
        Bounds.refused("select id where id is null and@");
        Bounds.refused("select id where id is null or @group by id");
        Bounds.refused("select id where (id is null or @) and id is null");
        Bounds.refused("select id where id is null or @where id is null");
    }

    private static void literalWords() {
        Check.sentence("LITERAL: true, false,");
        QueryText x = Bounds.taken("select id where paid = true or paid = false or paid in (false, true)");
        Bounds.row("types", new int[] {x.literal(0), x.literal(1), x.literal(2), x.literal(3)}, 0, 0, 0, 0);
        long[] due = {1, 0, 0, 1};
        for (int i = 0; i < due.length; i++) {
            Check.due("number(" + i + ")", x.number(i), due[i]);
        }
        Bounds.refused("select id where paid = @True");
        Bounds.refused("select id where paid = @FALSE");
        Bounds.refused("select id where paid = @truefalse");
        Bounds.refused("select id where paid = @yes");
        Bounds.refused("select id where paid = @null");
        Bounds.refused("select id where paid = -@");
        Bounds.refused("select id where paid = @-true");
        Bounds.refused("select id where paid = true@.paid");
        Bounds.refused("select id where @true = paid");
    }

    private static void noneIsNone() {
        Check.sentence("The constants: `NONE = -1`: None.");
        Check.due("NONE", QueryText.NONE, -1);
        QueryText x = new QueryText();
        Check.due("a field of the record", Check.field(x, QueryText.NONE, 0, 1, "a"), 0);
        Check.due("no such group", Check.field(x, 0, 0, 1, "b"), QueryText.NONE);
        Check.due("a query", Check.query(x, "select a"), QueryText.NONE);
        Check.due("no such item", x.item(1, 0), QueryText.NONE);
    }

    private static void kinds() {
        Check.sentence("KINDS: 0 a field is null; 1 it isn't; 2 it is in so many literals; 3 it and a literal are"
                + " compared; 4 it and another field; 5 not; 6 and; 7 or.");
        kindsOf("age is null", 0);
        kindsOf("age is not null", 1);
        kindsOf("age in (1)", 2);
        kindsOf("age in (1, 2, 3)", 2);
        kindsOf("age = 1", 3);
        kindsOf("age > 1", 3);
        kindsOf("name <> ''", 3);
        kindsOf("paid = true", 3);
        kindsOf("age = id", 4);
        kindsOf("age <= home.since", 4);
        kindsOf("age = age", 4);
        kindsOf("not age = 1", 3, 5);
        kindsOf("not not age is null", 0, 5, 5);
        kindsOf("age = 1 and age = id", 3, 4, 6);
        kindsOf("age = 1 or age = id", 3, 4, 7);
    }

    private static void whereFieldsLie() {
        Check.sentence("`int field(int group, int kind, int type, int n)`: A new field, in a group or (NONE) in the record");
        QueryText x = new QueryText();
        Check.due("in the record", Check.field(x, QueryText.NONE, 0, 4, "a"), 0);
        Check.due("in a", Check.field(x, 0, 0, 4, "b"), 1);
        Check.due("in a.b", Check.field(x, 1, 0, 1, "c"), 2);
        Check.due("in a", Check.field(x, 0, 0, 1, "c"), 3);
        Check.due("in the record", Check.field(x, QueryText.NONE, 0, 1, "c"), 4);
        Check.stands(x, "select a, a.b, a.b.c, a.c, c");
        for (int i = 0; i < 5; i++) {
            Check.due("item(" + i + ", 1)", x.item(i, 1), i);
        }
        Check.falls(x, "select @b");
        Check.falls(x, "select @b.c");
        Check.falls(x, "select @c.a");
        Check.falls(x, "select @a.a");
    }

    private static void countsOfTheQuery() {
        Check.sentence("How many items (what 0), paths behind by (1), STEPS (2), literals (3) the query has,"
                + " whether it COLLECTS (4)");
        Bounds.row("no condition", Bounds.counts(Bounds.taken("select id, name, age")), 3, 0, 0, 0, 0);
        Bounds.row("a condition", Bounds.counts(Bounds.taken("select id where not id in (1, 2, 3)")), 1, 0, 2, 3, 0);
        Bounds.row("fields compared", Bounds.counts(Bounds.taken("select id where id = age")), 1, 0, 1, 0, 0);
        Bounds.row("groups", Bounds.counts(Bounds.taken("select age group by id, age, name, paid")), 1, 4, 0, 0, 1);
        Bounds.row("a count", Bounds.counts(Bounds.taken("select count, sum(id)")), 2, 0, 0, 0, 1);
        QueryText x = Bounds.taken("select count, name where name = 'a' or id = 1 group by name");
        Bounds.row("all of it", Bounds.counts(x), 2, 1, 3, 2, 1);
        Bounds.taken(x, "select id");
        Bounds.row("the next query alone", Bounds.counts(x), 1, 0, 0, 0, 0);
    }

    private static void itemSorts() {
        Check.sentence("`int item(int i, int what)`: Of an item: 0 what it is: 0 a PATH, 1 count, 2 count of, 3 sum, 4 min,"
                + " 5 max; 1 its field, or NONE;");
        QueryText x = Bounds.taken("select max(name), count, min(paid), home.town, sum(home.since), count(age)"
                + " group by home.town");
        Bounds.row("max", Bounds.item(x, 0), 5, 1);
        Bounds.row("count", Bounds.item(x, 1), 1, -1);
        Bounds.row("min", Bounds.item(x, 2), 4, 11);
        Bounds.row("a PATH", Bounds.item(x, 3), 0, 3);
        Bounds.row("sum", Bounds.item(x, 4), 3, 4);
        Bounds.row("count of", Bounds.item(x, 5), 2, 13);
        QueryText y = Bounds.taken("select orders, orders.part.no, id");
        Bounds.row("a group", Bounds.item(y, 0), 0, 7);
        Bounds.row("what isn't flat", Bounds.item(y, 1), 0, 10);
        Bounds.row("the first field", Bounds.item(y, 2), 0, 0);
    }

    private static void operators() {
        Check.sentence("2 its OPERATOR: 0 = 1 <> 2 < 3 <= 4 > 5 >= , or NONE");
        QueryText x = Bounds.taken("select id where id >= 1 or id > 1 or id <= 1 or id < 1 or id <> 1 or id = 1");
        Check.due("step(0, 2)", x.step(0, 2), 5);
        for (int i = 1; i < 6; i++) {
            Check.due("step(" + (2 * i - 1) + ", 2)", x.step(2 * i - 1, 2), 5 - i);
            Check.due("of an or", x.step(2 * i, 2), -1);
        }
        QueryText y = Bounds.taken("select id where not id is null and id is not null and id in (1) and id<age");
        int[] due = {-1, -1, -1, -1, -1, -1, 2, -1};
        for (int i = 0; i < due.length; i++) {
            Check.due("step(" + i + ", 2)", y.step(i, 2), due[i]);
        }
    }

    private static void literalsCounted() {
        Check.sentence("3 the first literal, the other field, or NONE; 4 how many literals");
        QueryText x = Bounds.taken("select id where name in ('a', 'b', 'c') and id = 1 and id = age and id in (2)"
                + " and id is null");
        Bounds.row("in three", Bounds.step(x, 0), 2, 1, -1, 0, 3);
        Bounds.row("a literal", Bounds.step(x, 1), 3, 0, 0, 3, 1);
        Bounds.row("another field", Bounds.step(x, 3), 4, 0, 0, 13, 0);
        Bounds.row("in one", Bounds.step(x, 5), 2, 0, -1, 4, 1);
        Bounds.row("null", Bounds.step(x, 7), 0, 0, -1, -1, 0);
        Bounds.row("and", Bounds.step(x, 8), 6, -1, -1, -1, 0);
    }

    /** Asked with numbers that name something and with others; tape, fields and query are as before. */
    private static void askingChangesNothing() {
        Check.sentence("Nothing is promised beyond the answers and state changes described above", "asking changes nothing");
        QueryText x = Check.withSchema();
        Check.stands(x, Bounds.KEPT);
        Check.feed(x, "select age");
        int[] numbers = {0, 1, 2, 5, -1, Integer.MAX_VALUE, Integer.MIN_VALUE};
        for (int i : numbers) {
            x.count(i);
            x.by(i);
            x.literal(i);
            x.number(i);
            x.length(i);
            for (int k : numbers) {
                x.item(i, k);
                x.step(i, k);
                x.byteOf(i, k);
            }
        }
        Bounds.kept(x);
        Check.due("the tape is as before", x.query(10), -1);
        Check.due("item(0, 1)", x.item(0, 1), 13);
        Check.due("the next number", Check.field(x, -1, 0, 0, "next"), 15);
    }

    private static void objectsApart() {
        Check.sentence("`QueryText()`: No fields, an empty tape, no query.", "whatever other objects have");
        QueryText x = Check.withSchema();
        Check.stands(x, Bounds.KEPT);
        Check.feed(x, "select age");
        QueryText fresh = new QueryText();
        NewObjectTest.answersWithoutQuery(fresh);
        Bounds.emptyTape(fresh);
        Bounds.refused(fresh, "select @id");
        Check.due("its own first number", Check.field(fresh, -1, 0, 3, "id"), 0);
        Check.stands(fresh, "select count where id = 'x'");
        Bounds.kept(x);
        Check.due("the tape of the first", x.query(10), -1);
        Check.due("item(0, 1)", x.item(0, 1), 13);
        Bounds.row("counts of the second", Bounds.counts(fresh), 1, 0, 1, 1, 1);
    }
}
