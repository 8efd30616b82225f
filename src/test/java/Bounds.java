/** For tests of one bound each: every case has an object of its own, and shows what later calls answer. */
final class Bounds {
    static final String KEPT = "select name, max(age) where not name in ('ab', '') or id = -7 group by name";

    private Bounds() {
    }

    /** The text stands in the place of a query before; the tape is empty then. */
    static QueryText taken(String text) {
        return taken(Check.withSchema(), text);
    }

    static QueryText taken(QueryText x, String text) {
        Check.stands(x, text);
        emptyTape(x);
        return x;
    }

    /** The text falls at the mark; the query before stays, the tape is empty, and a later query is read anew. */
    static void refused(String marked) {
        QueryText x = Check.withSchema();
        Check.stands(x, KEPT);
        Check.falls(x, marked);
        kept(x);
        emptyTape(x);
        Check.stands(x, "select id where (id = 1 or not id = 2)");
        row("counts of a later query", counts(x), 1, 0, 4, 2, 0);
        Check.due("step(3, 0) of a later query", x.step(3, 0), 7);
    }

    /** The text falls at the mark; there was no query, and there is none. */
    static void refused(QueryText x, String marked) {
        Check.falls(x, marked);
        NewObjectTest.answersWithoutQuery(x);
        emptyTape(x);
    }

    /** Bytes that are not on the tape can't be cut off it. */
    static void emptyTape(QueryText x) {
        Check.due("query(1) of an empty tape", x.query(1), -2);
        Check.due("field of an empty tape", x.field(-1, 0, 0, 1), -2);
    }

    static void row(String call, int[] got, int... due) {
        Check.due(call + ": how many", got.length, due.length);
        for (int i = 0; i < due.length && i < got.length; i++) {
            Check.due(call + ": " + i, got[i], due[i]);
        }
    }

    static int[] counts(QueryText x) {
        return new int[] {x.count(0), x.count(1), x.count(2), x.count(3), x.count(4)};
    }

    static int[] item(QueryText x, int i) {
        return new int[] {x.item(i, 0), x.item(i, 1)};
    }

    static int[] step(QueryText x, int i) {
        return new int[] {x.step(i, 0), x.step(i, 1), x.step(i, 2), x.step(i, 3), x.step(i, 4)};
    }

    static int[] text(QueryText x, int i) {
        int[] bytes = new int[Math.max(0, x.length(i))];
        for (int k = 0; k < bytes.length; k++) {
            bytes[k] = x.byteOf(i, k);
        }
        return bytes;
    }

    /** All that KEPT says. */
    static void kept(QueryText x) {
        row("counts", counts(x), 2, 1, 4, 3, 1);
        row("item 0", item(x, 0), 0, 1);
        row("item 1", item(x, 1), 5, 13);
        row("item 2", item(x, 2), -1, -1);
        Check.due("by(0)", x.by(0), 1);
        Check.due("by(1)", x.by(1), -1);
        row("step 0", step(x, 0), 2, 1, -1, 0, 2);
        row("step 1", step(x, 1), 5, -1, -1, -1, 0);
        row("step 2", step(x, 2), 3, 0, 0, 2, 1);
        row("step 3", step(x, 3), 7, -1, -1, -1, 0);
        row("step 4", step(x, 4), -1, -1, -1, -1, -1);
        row("literals", new int[] {x.literal(0), x.literal(1), x.literal(2), x.literal(3)}, 3, 3, 2, -1);
        row("text 0", text(x, 0), 'a', 'b');
        Check.due("length(1)", x.length(1), 0);
        Check.due("number(2)", x.number(2), -7);
    }

    /** Fields f0, f1 .. of one kind and type in the record. */
    static QueryText withFields(int many, int kind, int type) {
        QueryText x = new QueryText();
        for (int i = 0; i < many; i++) {
            Check.due("field f" + i, Check.field(x, -1, kind, type, "f" + i), i);
        }
        return x;
    }

    static boolean isLetter(int b) {
        return "abcdefghijklmnopqrstuvwxyzABCDEFGHIJKLMNOPQRSTUVWXYZ".indexOf(b) >= 0;
    }

    static boolean isWordByte(int b) {
        return isLetter(b) || "0123456789_".indexOf(b) >= 0;
    }
}
