/** Promise 1: no fields, an empty tape, no query; and what no query answers to each call. */
public final class NewObjectTest {
    public static void main(String[] args) {
        QueryText x = new QueryText();
        Check.due("NONE", QueryText.NONE, -1);
        answersWithoutQuery(x);
        Check.due("query(1) of an empty tape", x.query(1), -2);
        Check.due("field of an empty tape", x.field(-1, 0, 0, 1), -2);
        Check.due("query(0)", x.query(0), 0);
        Check.due("no group 0", Check.field(x, 0, 0, 0, "a"), -1);
        Check.due("first field", Check.field(x, -1, 0, 0, "a"), 0);
        Check.due("second object: its own fields", Check.field(new QueryText(), -1, 0, 0, "a"), 0);
        answersWithoutQuery(x);
        Check.end();
    }

    static void answersWithoutQuery(QueryText x) {
        for (int what = 0; what < 5; what++) {
            Check.due("count(" + what + ")", x.count(what), 0);
            Check.due("item(0, " + what + ")", x.item(0, what), -1);
            Check.due("step(0, " + what + ")", x.step(0, what), -1);
        }
        Check.due("by(0)", x.by(0), -1);
        Check.due("literal(0)", x.literal(0), -1);
        Check.due("number(0)", x.number(0), 0);
        Check.due("length(0)", x.length(0), -1);
        Check.due("byteOf(0, 0)", x.byteOf(0, 0), -1);
    }
}
