/** The sentences of promises 1 to 12 that name a bound: the last that is taken, the first that is not, and after. */
public final class BoundsOfCallsTest {
    private static final int[] FAR = {-2, -65, 65, 2000, Integer.MAX_VALUE, Integer.MIN_VALUE, 1 << 30, 1 << 31 | 1};

    public static void main(String[] args) {
        lastCall();
        newObject();
        feedBytes();
        feedRoom();
        fieldNames();
        fieldRefused();
        fieldTooFewBytes();
        fieldDropsTheQuery();
        fieldBeforeNone();
        queryStands();
        queryFalls();
        queryTooFewBytes();
        counts();
        items();
        behindBy();
        steps();
        stepParts();
        literals();
        numbers();
        lengths();
        bytes();
        Check.end();
    }

    private static void lastCall() {
        Check.sentence("An object is used for at most 512 calls after it has been made; what later calls answer is "
                + "free.");
        QueryText x = new QueryText();
        for (int i = 0; i < 100; i++) {
            Check.due("feed", x.feed(0, 0, 0, 0, 0) ? 1 : 0, 1);
        }
        for (int i = 100; i < 507; i++) {
            Check.due("feed", x.feed(0, 0, 0, 0, 0) ? 1 : 0, 0);
        }
        Check.due("call 508", x.query(2000), 0);
        Check.due("call 509", x.feed(0x69640000, 0, 0, 0, 0) ? 1 : 0, 1);
        Check.due("call 510", x.field(-1, 0, 1, 2), 0);
        Check.due("call 511", x.count(0), 0);
        Check.due("call 512", x.count(5), -1);
    }

    private static void newObject() {
        Check.sentence("`QueryText()`: No fields, an empty tape, no query.");
        QueryText x = new QueryText();
        NewObjectTest.answersWithoutQuery(x);
        Bounds.emptyTape(x);
        Check.due("group 0 is none", Check.field(x, 0, 0, 0, "a"), -1);
        Check.due("the first number", Check.field(x, -1, 0, 0, "a"), 0);
        QueryText other = new QueryText();
        Bounds.refused(other, "select @a");
        Check.due("its own first number", Check.field(other, -1, 0, 0, "a"), 0);
    }

    private static void feedBytes() {
        Check.sentence("`boolean feed(int a, int b, int c, int d, int e)`: Twenty bytes come onto the tape: four in "
                + "each number, the highest first");
        QueryText x = Check.withSchema();
        Check.due("feed", x.feed(0x73656c65, 0x63742069, 0x64207768, 0x65726520, 0x6e616d65) ? 1 : 0, 1);
        Check.due("feed", x.feed(0x3d270000, 0, 0, 0, 0) ? 1 : 0, 1);
        Check.due("a text without an end", x.query(22), 22);
        Check.due("feed", x.feed(0x73656c65, 0x63742069, 0x64207768, 0x65726520, 0x6e616d65) ? 1 : 0, 1);
        Check.due("feed", x.feed(0x3d272122, 0x23242526, 0x28292a2b, 0x2c2d2e2f, 0x30313227) ? 1 : 0, 1);
        Check.due("41 bytes", x.query(41), -2);
        Check.due("40 bytes", x.query(40), -1);
        Bounds.row("text 0", Bounds.text(x, 0), 0x21, 0x22, 0x23, 0x24, 0x25, 0x26, 0x28, 0x29, 0x2a, 0x2b, 0x2c, 0x2d,
                0x2e, 0x2f, 0x30, 0x31, 0x32);
        for (int place = 0; place < 20; place++) {
            int[] numbers = {0x20202020, 0x20202020, 0x20202020, 0x20202020, 0x20202020};
            numbers[place / 4] ^= (0x20 ^ 0xff) << 24 - 8 * (place % 4);
            QueryText y = new QueryText();
            Check.due("feed", y.feed(numbers[0], numbers[1], numbers[2], numbers[3], numbers[4]) ? 1 : 0, 1);
            Check.due("byte 255 at " + place, y.query(20), place);
        }
    }

    private static void feedRoom() {
        Check.sentence("false if it hasn't room");
        QueryText x = Check.withSchema();
        Check.stands(x, Bounds.KEPT);
        String text = "select id where id = 1" + " ".repeat(1978);
        Check.feed(x, text);
        Check.due("the 101st", x.feed(-1, -1, -1, -1, -1) ? 1 : 0, 0);
        Check.due("and once more", x.feed(0, 0, 0, 0, 0) ? 1 : 0, 0);
        Bounds.kept(x);
        Check.due("the tape is as it was", x.query(2000), -1);
        Bounds.row("counts", Bounds.counts(x), 1, 0, 1, 1, 0);
        Check.due("there is room again", x.feed(0, 0, 0, 0, 0) ? 1 : 0, 1);
    }

    private static void fieldNames() {
        Check.sentence("its NAME is the first n bytes of the tape, which is empty then: its number.");
        QueryText x = new QueryText();
        Check.feed(x, "abcdefghijklmnopqrst");
        Check.due("of 20 bytes the first", x.field(-1, 0, 1, 1), 0);
        Bounds.emptyTape(x);
        Check.feed(x, "abcdefghijklmnopqrst");
        Check.due("of 20 bytes 16", x.field(-1, 0, 1, 16), 1);
        Bounds.emptyTape(x);
        Check.feed(x, "abcdefghijklmnopqrst");
        Check.due("of 20 bytes 17", x.field(-1, 0, 1, 17), -1);
        Bounds.emptyTape(x);
        Check.stands(x, "select abcdefghijklmnop, a");
        Check.due("item(0, 1)", x.item(0, 1), 1);
        Check.due("item(1, 1)", x.item(1, 1), 0);
    }

    private static void fieldRefused() {
        Check.sentence("NONE if there are 64, there is no such group, kind, TYPE, or it is no such NAME;");
        Check.due("the 65th", Check.field(Bounds.withFields(64, 0, 1), -1, 0, 1, "a"), -1);
        int[][] wrong = {{15, 0, 0}, {0, 0, 0}, {-2, 0, 0}, {-1, -1, 0}, {-1, 3, 0}, {-1, 0, -1}, {-1, 0, 5}};
        for (int[] w : wrong) {
            refusedField(w[0], w[1], w[2], "fresh");
        }
        String[] names = {"", "1", "_", "id", "a b", "abcdefghijklmnopq"};
        for (String name : names) {
            refusedField(-1, 0, 0, name);
        }
    }

    /** It has no number, the tape is empty, the query gone, and the schema as it was. */
    private static void refusedField(int group, int kind, int type, String name) {
        QueryText x = Check.withSchema();
        Check.stands(x, Bounds.KEPT);
        Check.due("field " + name, Check.field(x, group, kind, type, name), -1);
        Bounds.emptyTape(x);
        NewObjectTest.answersWithoutQuery(x);
        Check.due("the next number", Check.field(x, -1, 0, 0, "next"), 15);
        Bounds.refused(x, "select @fresh");
        Bounds.taken(x, Bounds.KEPT);
        Bounds.kept(x);
    }

    private static void fieldTooFewBytes() {
        Check.sentence("- 2, and tape and query stay, if there are not so many bytes, or n is below 0");
        QueryText x = Check.withSchema();
        Check.stands(x, Bounds.KEPT);
        int[] wrong = {-1, 21, 2000, 2001, Integer.MIN_VALUE, Integer.MAX_VALUE};
        Check.feed(x, "select age where");
        for (int n : wrong) {
            Check.due("field with n " + n, x.field(-1, 0, 0, n), -2);
        }
        Bounds.kept(x);
        Check.due("the tape stays", x.query(10), -1);
        Check.due("item(0, 1)", x.item(0, 1), 13);
        Check.due("one byte of none", x.field(-1, 0, 0, 1), -2);
        Check.feed(x, "twentyBytesOnTheTape");
        Check.due("21 of 20 bytes", x.field(-1, 0, 0, 21), -2);
        Check.due("20 of 20 bytes", x.field(-1, 0, 0, 20), -1);
        Check.due("none of no bytes", x.field(-1, 0, 0, 0), -1);
        Check.due("the next number", Check.field(x, -1, 0, 0, "next"), 15);
    }

    private static void fieldDropsTheQuery() {
        Check.sentence("Otherwise there is no query then.");
        QueryText x = Check.withSchema();
        Check.stands(x, Bounds.KEPT);
        Check.due("a field", Check.field(x, -1, 0, 0, "fresh"), 15);
        NewObjectTest.answersWithoutQuery(x);
        Check.stands(x, Bounds.KEPT);
        Check.due("no field", Check.field(x, -1, 0, 0, "fresh"), -1);
        NewObjectTest.answersWithoutQuery(x);
        Check.stands(x, Bounds.KEPT);
        Check.due("n 0", x.field(-1, 0, 0, 0), -1);
        NewObjectTest.answersWithoutQuery(x);
        Check.falls(x, "select @#");
        NewObjectTest.answersWithoutQuery(x);
    }

    private static void fieldBeforeNone() {
        Check.sentence("- 2, and tape and query stay, if there are not so many bytes", "also where NONE would be due");
        QueryText x = Bounds.withFields(64, 0, 1);
        Check.stands(x, "select f1");
        Check.due("the 65th", x.field(-1, 0, 0, 1), -2);
        Check.due("no such group", x.field(64, 0, 0, -1), -2);
        Check.due("no such kind", x.field(-1, 3, 0, 1), -2);
        Check.due("no such TYPE", x.field(-1, 0, 5, 1), -2);
        Check.due("the query stays", x.item(0, 1), 1);
    }

    private static void queryStands() {
        Check.sentence("`int query(int n)`: The first n bytes of the tape, which is empty then, are a QUERY: NONE "
                + "if so");
        QueryText x = Check.withSchema();
        Check.feed(x, "select id, age where");
        Check.due("9 of 20 bytes", x.query(9), -1);
        Bounds.row("counts", Bounds.counts(x), 1, 0, 0, 0, 0);
        Bounds.emptyTape(x);
        Check.feed(x, "select id, age where");
        Check.due("14 of 20 bytes", x.query(14), -1);
        Bounds.row("counts", Bounds.counts(x), 2, 0, 0, 0, 0);
        Bounds.emptyTape(x);
        Bounds.taken(x, Bounds.KEPT);
        Bounds.kept(x);
    }

    private static void queryFalls() {
        Check.sentence("else the place of what can't stand (the query before stays)");
        QueryText x = Check.withSchema();
        Check.due("0 bytes", x.query(0), 0);
        NewObjectTest.answersWithoutQuery(x);
        Check.stands(x, Bounds.KEPT);
        Check.due("0 bytes", x.query(0), 0);
        Bounds.kept(x);
        Check.feed(x, "select id, age where");
        Check.due("8 of 20 bytes", x.query(8), 7);
        Bounds.kept(x);
        Bounds.emptyTape(x);
        Check.feed(x, "select id, age where");
        Check.due("20 of 20 bytes", x.query(20), 20);
        Bounds.kept(x);
        Bounds.emptyTape(x);
        Check.falls(x, "select count, age where name in ('xyz', 'u') or not id = 5 group by paid,@");
        Bounds.kept(x);
        Check.falls(x, "select @id, count where name in ('xyz', 'u', '') or not id = 5 group by name, age");
        Bounds.kept(x);
    }

    private static void queryTooFewBytes() {
        Check.sentence("- 2 as with field.");
        QueryText x = Check.withSchema();
        Check.stands(x, Bounds.KEPT);
        Check.feed(x, "select age          ");
        int[] wrong = {-1, 21, 2000, 2001, Integer.MIN_VALUE, Integer.MAX_VALUE};
        for (int n : wrong) {
            Check.due("query with n " + n, x.query(n), -2);
        }
        Bounds.kept(x);
        Check.due("the tape stays", x.query(20), -1);
        Check.due("item(0, 1)", x.item(0, 1), 13);
        Check.due("one byte of none", x.query(1), -2);
        Check.due("the query stays", x.item(0, 1), 13);
    }

    private static void counts() {
        Check.sentence("`int count(int what)`: How many items (what 0), paths behind by (1), STEPS (2), literals "
                + "(3) the query has, whether it COLLECTS (4); NONE for another what.");
        QueryText x = Bounds.taken("select id, age, id where id in (1, 2, 3, 4) group by age, id");
        Bounds.row("counts", Bounds.counts(x), 3, 2, 1, 4, 1);
        Check.due("count(5)", x.count(5), -1);
        Check.due("count(-1)", x.count(-1), -1);
        for (int what : FAR) {
            Check.due("count(" + what + ")", x.count(what), -1);
        }
        QueryText none = new QueryText();
        Bounds.row("counts", Bounds.counts(none), 0, 0, 0, 0, 0);
        Check.due("count(5) without a query", none.count(5), -1);
        Check.due("count(-1) without a query", none.count(-1), -1);
    }

    private static void items() {
        Check.sentence("Of an item: [..] NONE if there is none such, or for another what.");
        QueryText x = Bounds.taken("select age, count, max(id) group by age");
        Bounds.row("item 0", Bounds.item(x, 0), 0, 13);
        Bounds.row("item 1", Bounds.item(x, 1), 1, -1);
        Bounds.row("item 2", Bounds.item(x, 2), 5, 0);
        Bounds.row("item 3", Bounds.item(x, 3), -1, -1);
        Bounds.row("item -1", Bounds.item(x, -1), -1, -1);
        Bounds.row("item 16", Bounds.item(x, 16), -1, -1);
        Check.due("item(0, 2)", x.item(0, 2), -1);
        Check.due("item(1, -1)", x.item(1, -1), -1);
        for (int far : FAR) {
            Bounds.row("item " + far, Bounds.item(x, far), -1, -1);
            Check.due("item(0, " + far + ")", x.item(0, far), -1);
            Check.due("item(1, " + far + ")", x.item(1, far), -1);
        }
        Bounds.taken(x, "select id");
        Bounds.row("item 1 of another query", Bounds.item(x, 1), -1, -1);
    }

    private static void behindBy() {
        Check.sentence("`int by(int i)`: The field of a path behind by; NONE if there is none such.");
        QueryText x = Bounds.taken("select count group by age, home.last.seen");
        Check.due("by(0)", x.by(0), 13);
        Check.due("by(1)", x.by(1), 6);
        Check.due("by(2)", x.by(2), -1);
        Check.due("by(-1)", x.by(-1), -1);
        Check.due("by(8)", x.by(8), -1);
        for (int far : FAR) {
            Check.due("by(" + far + ")", x.by(far), -1);
        }
        Bounds.taken(x, "select id group by id");
        Check.due("by(1) of another query", x.by(1), -1);
        Bounds.taken(x, "select id");
        Check.due("by(0) of another query", x.by(0), -1);
    }

    private static void steps() {
        Check.sentence("Of a STEP: [..] NONE if there is none such, or for another what.");
        QueryText x = Bounds.taken("select id where id = 1 or age = 2");
        Bounds.row("step 1", Bounds.step(x, 1), 3, 13, 0, 1, 1);
        Bounds.row("step 2", Bounds.step(x, 2), 7, -1, -1, -1, 0);
        Bounds.row("step 3", Bounds.step(x, 3), -1, -1, -1, -1, -1);
        Bounds.row("step -1", Bounds.step(x, -1), -1, -1, -1, -1, -1);
        Check.due("step(0, 5)", x.step(0, 5), -1);
        Check.due("step(1, -1)", x.step(1, -1), -1);
        for (int far : FAR) {
            Bounds.row("step " + far, Bounds.step(x, far), -1, -1, -1, -1, -1);
            Check.due("step(0, " + far + ")", x.step(0, far), -1);
            Check.due("step(1, " + far + ")", x.step(1, far), -1);
        }
        Bounds.taken(x, "select id where age is null");
        Bounds.row("step 0 of another query", Bounds.step(x, 0), 0, 13, -1, -1, 0);
        Bounds.row("step 1 of another query", Bounds.step(x, 1), -1, -1, -1, -1, -1);
    }

    private static void stepParts() {
        Check.sentence("`int step(int i, int what)`: Of a STEP: 0 its KIND; 1 its field, or NONE; 2 its OPERATOR: "
                + "[..] or NONE; 3 the first literal, the other field, or NONE; 4 how many literals;");
        QueryText x = Bounds.taken("select id where age is null and age is not null and age in (1, 2) and age > 3"
                + " and age > id and not age > 4 or age > 5");
        Bounds.row("step 0", Bounds.step(x, 0), 0, 13, -1, -1, 0);
        Bounds.row("step 1", Bounds.step(x, 1), 1, 13, -1, -1, 0);
        Bounds.row("step 2", Bounds.step(x, 2), 6, -1, -1, -1, 0);
        Bounds.row("step 3", Bounds.step(x, 3), 2, 13, -1, 0, 2);
        Bounds.row("step 5", Bounds.step(x, 5), 3, 13, 4, 2, 1);
        Bounds.row("step 7", Bounds.step(x, 7), 4, 13, 4, 0, 0);
        Bounds.row("step 10", Bounds.step(x, 10), 5, -1, -1, -1, 0);
        Bounds.row("step 12", Bounds.step(x, 12), 3, 13, 4, 4, 1);
        Bounds.row("step 13", Bounds.step(x, 13), 7, -1, -1, -1, 0);
    }

    private static void literals() {
        Check.sentence("`int literal(int i)`: A literal's TYPE (0 bool, 2 a NUMBER, 3 a TEXT); NONE if there is "
                + "none such.");
        QueryText x = Bounds.taken("select id where id = 5 or name = '5' or paid = true or paid = false");
        Check.due("of an int it is 2 too", x.literal(0), 2);
        Check.due("literal(1)", x.literal(1), 3);
        Check.due("literal(2)", x.literal(2), 0);
        Check.due("literal(3)", x.literal(3), 0);
        Check.due("literal(4)", x.literal(4), -1);
        Check.due("literal(-1)", x.literal(-1), -1);
        for (int far : FAR) {
            Check.due("literal(" + far + ")", x.literal(far), -1);
        }
        Bounds.taken(x, "select id where name = ''");
        Check.due("literal(1) of another query", x.literal(1), -1);
    }

    private static void numbers() {
        Check.sentence("`long number(int i)`: A NUMBER, or 1 of true; 0 of others, and if there is none such.");
        QueryText x = Bounds.taken("select id where id in (9223372036854775807, -9223372036854775808, 0, -1)"
                + " or paid = true or paid = false or name = '7'");
        long[] due = {Long.MAX_VALUE, Long.MIN_VALUE, 0, -1, 1, 0, 0};
        for (int i = 0; i < due.length; i++) {
            Check.due("number(" + i + ")", x.number(i), due[i]);
        }
        Check.due("number(7)", x.number(7), 0);
        Check.due("number(-1)", x.number(-1), 0);
        for (int far : FAR) {
            Check.due("number(" + far + ")", x.number(far), 0);
        }
        Bounds.taken(x, "select id where name in ('', 'a')");
        Check.due("number(0) of another query", x.number(0), 0);
        Check.due("number(1) of another query", x.number(1), 0);
        Check.due("number(2) of another query", x.number(2), 0);
        Check.due("number(3) of another query", x.number(3), 0);
    }

    private static void lengths() {
        Check.sentence("`int length(int i)`: How many bytes a TEXT has; NONE if there is none such.");
        QueryText x = Bounds.taken("select id where name in ('', 'a', '\\x00\\'\\\\', '" + "b".repeat(255)
                + "') or id = 5 or paid = true");
        int[] due = {0, 1, 3, 255, -1, -1, -1};
        for (int i = 0; i < due.length; i++) {
            Check.due("length(" + i + ")", x.length(i), due[i]);
        }
        Check.due("length(-1)", x.length(-1), -1);
        for (int far : FAR) {
            Check.due("length(" + far + ")", x.length(far), -1);
        }
        Bounds.taken(x, "select id where id = 5");
        Check.due("length(0) of another query", x.length(0), -1);
        Check.due("length(1) of another query", x.length(1), -1);
    }

    private static void bytes() {
        Check.sentence("`int byteOf(int i, int k)`: A byte of a TEXT; NONE if there is none such.");
        QueryText x = Bounds.taken("select id where name in ('', 'a', '\\xff\\x00', '" + "b".repeat(254)
                + "c') or id = 5 or paid = true");
        Check.due("byteOf(0, 0)", x.byteOf(0, 0), -1);
        Check.due("byteOf(1, 0)", x.byteOf(1, 0), 'a');
        Check.due("byteOf(1, 1)", x.byteOf(1, 1), -1);
        Bounds.row("text 2", Bounds.text(x, 2), 255, 0);
        Check.due("byteOf(2, 2)", x.byteOf(2, 2), -1);
        Check.due("byteOf(3, 254)", x.byteOf(3, 254), 'c');
        Check.due("byteOf(3, 255)", x.byteOf(3, 255), -1);
        for (int i = -1; i < 7; i++) {
            Check.due("byteOf(" + i + ", -1)", x.byteOf(i, -1), -1);
        }
        Check.due("of a NUMBER", x.byteOf(4, 0), -1);
        Check.due("of true", x.byteOf(5, 0), -1);
        Check.due("of none", x.byteOf(6, 0), -1);
        for (int far : FAR) {
            Check.due("byteOf(" + far + ", 0)", x.byteOf(far, 0), -1);
            Check.due("byteOf(1, " + far + ")", x.byteOf(1, far), -1);
        }
        Bounds.taken(x, "select id where name in ('', '')");
        Check.due("byteOf(1, 0) of another query", x.byteOf(1, 0), -1);
        Check.due("byteOf(3, 0) of another query", x.byteOf(3, 0), -1);
    }
}
