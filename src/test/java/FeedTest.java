/** Promise 2: the order of the bytes, and room for 2000 of them. */
public final class FeedTest {
    public static void main(String[] args) {
        QueryText x = Check.withSchema();
        order(x);
        room(x);
        fullQuery(x);
        Check.end();
    }

    private static void order(QueryText x) {
        // "select name where na" and "me='\u0000..": the highest byte first, in each of the five numbers.
        Check.due("feed", x.feed(0x73656c65, 0x6374206e, 0x616d6520, 0x77686572, 0x65206e61) ? 1 : 0, 1);
        Check.due("feed", x.feed(0x6d653d27, 0x41427e20, 0x5c786666, 0x27000000, 0xffffffff) ? 1 : 0, 1);
        Check.due("query(33)", x.query(33), -1);
        int[] due = {'A', 'B', '~', ' ', 255};
        Check.due("length(0)", x.length(0), due.length);
        for (int k = 0; k < due.length; k++) {
            Check.due("byteOf(0, " + k + ")", x.byteOf(0, k), due[k]);
        }
        Check.due("feed of a byte above 127", x.feed(0x80000000, 0, 0, 0, 0) ? 1 : 0, 1);
        Check.due("query(1)", x.query(1), 0);
    }

    private static void room(QueryText x) {
        for (int i = 0; i < 100; i++) {
            Check.due("feed " + i, x.feed(0x20202020, 0x20202020, 0x20202020, 0x20202020, 0x20202020) ? 1 : 0, 1);
        }
        Check.due("feed without room", x.feed(0, 0, 0, 0, 0) ? 1 : 0, 0);
        Check.due("query(2001)", x.query(2001), -2);
        Check.due("feed still without room", x.feed(0, 0, 0, 0, 0) ? 1 : 0, 0);
        Check.due("query(2000): what was refused is not on the tape", x.query(2000), 2000);
        Check.due("feed again", x.feed(0x69640000, 0, 0, 0, 0) ? 1 : 0, 1);
        Check.due("query(21)", x.query(21), -2);
        Check.due("query(20)", x.query(20), 0);
    }

    private static void fullQuery(QueryText x) {
        String front = "select id where id = 1";
        String text = front + " ".repeat(1979 - front.length()) + " or name = '\\xff\\x00'";
        Check.stands(x, text);
        Check.due("count(2)", x.count(2), 3);
        Check.due("byteOf(1, 0)", x.byteOf(1, 0), 255);
        Check.due("byteOf(1, 1)", x.byteOf(1, 1), 0);
    }
}
