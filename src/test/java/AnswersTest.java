/** Promises 5 to 12: what the query that stands has. */
public final class AnswersTest {
    private static final int[] OUTSIDE = {-1, -2, 64, 2000, Integer.MAX_VALUE, Integer.MIN_VALUE, 1 << 30, 1 << 29};

    public static void main(String[] args) {
        counts();
        items();
        behindBy();
        steps();
        orders();
        literals();
        outside();
        Check.end();
    }

    private static void counts() {
        QueryText x = Check.withSchema();
        int[] plain = {2, 0, 5, 4, 0};
        Check.stands(x, "select id, name where id in (1, 2, 3) or name = 'a' or paid is null");
        for (int what = 0; what < 5; what++) {
            Check.due("count(" + what + ")", x.count(what), plain[what]);
        }
        Check.due("count(5)", x.count(5), -1);
        Check.due("count(-1)", x.count(-1), -1);
        Check.stands(x, "select id group by id, paid, name");
        Check.due("count(1)", x.count(1), 3);
        Check.due("collects with by", x.count(4), 1);
        Check.stands(x, "select count");
        Check.due("collects with count", x.count(4), 1);
        Check.stands(x, "select max(id), id group by id");
        Check.due("collects with max", x.count(4), 1);
        Check.stands(x, "select id");
        Check.due("does not collect", x.count(4), 0);
        Check.due("count(1)", x.count(1), 0);
    }

    private static void items() {
        QueryText x = Check.withSchema();
        Check.stands(x, "select home.town, count, count(name), sum(id), min(paid), max(home.since) group by home.town");
        int[][] due = {{0, 3}, {1, -1}, {2, 1}, {3, 0}, {4, 11}, {5, 4}};
        for (int i = 0; i < due.length; i++) {
            Check.due("item(" + i + ", 0)", x.item(i, 0), due[i][0]);
            Check.due("item(" + i + ", 1)", x.item(i, 1), due[i][1]);
            Check.due("item(" + i + ", 2)", x.item(i, 2), -1);
            Check.due("item(" + i + ", -1)", x.item(i, -1), -1);
        }
        Check.due("item(6, 0)", x.item(6, 0), -1);
        Check.due("item(-1, 0)", x.item(-1, 0), -1);
        Check.due("item(0, 1 << 31)", x.item(0, 1 << 31), -1);
        Check.stands(x, "select orders.part.no, orders.part, tags");
        Check.due("item(0, 1)", x.item(0, 1), 10);
        Check.due("item(1, 1)", x.item(1, 1), 9);
        Check.due("item(2, 1)", x.item(2, 1), 12);
        Check.due("item(3, 1)", x.item(3, 1), -1);
    }

    private static void behindBy() {
        QueryText x = Check.withSchema();
        Check.stands(x, "select count group by paid, home.last.seen, id");
        Check.due("by(0)", x.by(0), 11);
        Check.due("by(1)", x.by(1), 6);
        Check.due("by(2)", x.by(2), 0);
        Check.due("by(3)", x.by(3), -1);
        Check.due("by(8)", x.by(8), -1);
        Check.due("by(-1)", x.by(-1), -1);
    }

    private static void steps() {
        QueryText x = Check.withSchema();
        Check.stands(x, "select id where id is null and id is not null and name in ('a', 'b') and paid in (true)");
        Check.steps(x, new int[] {0, 0, -1, -1, 0}, new int[] {1, 0, -1, -1, 0}, new int[] {6, -1, -1, -1, 0},
                new int[] {2, 1, -1, 0, 2}, new int[] {6, -1, -1, -1, 0}, new int[] {2, 11, -1, 2, 1},
                new int[] {6, -1, -1, -1, 0});
        String[] operators = {"=", "<>", "<", "<=", ">", ">="};
        for (int i = 0; i < operators.length; i++) {
            Check.stands(x, "select id where home.since" + operators[i] + "5 or home.since " + operators[i] + " age");
            Check.steps(x, new int[] {3, 4, i, 0, 1}, new int[] {4, 4, i, 13, 0}, new int[] {7, -1, -1, -1, 0});
        }
        Check.due("step(0, 5)", x.step(0, 5), -1);
        Check.due("step(0, -1)", x.step(0, -1), -1);
        Check.due("step(3, 0)", x.step(3, 0), -1);
        Check.due("step(-1, 4)", x.step(-1, 4), -1);
    }

    /** The order of the steps, written as the numbers of the literals and the joining words' signs. */
    private static void orders() {
        order("0", "0");
        order("0 and 1 and 2", "01&2&");
        order("0 or 1 or 2", "01|2|");
        order("0 or 1 and 2", "012&|");
        order("0 and 1 or 2 and 3", "01&23&|");
        order("0 and 1 or 2 or 3 and 4 and 5", "01&2|34&5&|");
        order("not 0 and 1", "0!1&");
        order("not (0 and 1)", "01&!");
        order("not not 0 or not 1", "0!!1!|");
        order("0 and not not 1 and 2", "01!!&2&");
        order("0 and (1 or 2)", "012|&");
        order("0 or (1 or 2)", "012||");
        order("(0 or 1) and (2 or not (3 and 4) or 5)", "01|234&!|5|&");
        order("not (not (0)) and ((1) or 2 and 3)", "0!!123&|&");
        order("not (0 or 1 and (2 or 3 and 4) and 5) or 6", "01234&|&5&|!6|");
    }

    private static void order(String condition, String due) {
        QueryText x = Check.withSchema();
        StringBuilder text = new StringBuilder("select id where ");
        for (char c : condition.toCharArray()) {
            text.append(c >= '0' && c <= '9' ? "id=" : "").append(c);
        }
        Check.stands(x, text.toString());
        StringBuilder got = new StringBuilder();
        for (int i = 0; i < x.count(2); i++) {
            int kind = x.step(i, 0);
            got.append(kind == 3 ? "" + x.number(x.step(i, 3)) : kind == 5 ? "!" : kind == 6 ? "&" : "|");
        }
        if (!got.toString().equals(due)) {
            Check.due("steps of " + condition + ": " + got + " for " + due, 0, 1);
        }
    }

    private static void literals() {
        QueryText x = Check.withSchema();
        Check.stands(x, "select id where name in ('a\\'b', '', '\\\\\\x7f\\xe0x') or paid = true or paid = false"
                + " or id in (-5, 0) or home.since > 9223372036854775807");
        int[] types = {3, 3, 3, 0, 0, 2, 2, 2};
        long[] numbers = {0, 0, 0, 1, 0, -5, 0, Long.MAX_VALUE};
        int[] lengths = {3, 0, 4, -1, -1, -1, -1, -1};
        Check.due("count(3)", x.count(3), types.length);
        for (int i = 0; i < types.length; i++) {
            Check.due("literal(" + i + ")", x.literal(i), types[i]);
            Check.due("number(" + i + ")", x.number(i), numbers[i]);
            Check.due("length(" + i + ")", x.length(i), lengths[i]);
            Check.due("byteOf(" + i + ", -1)", x.byteOf(i, -1), -1);
            Check.due("byteOf(" + i + ", end)", x.byteOf(i, Math.max(0, lengths[i])), -1);
        }
        int[][] bytes = {{'a', '\'', 'b'}, {}, {'\\', 127, 224, 'x'}};
        for (int i = 0; i < bytes.length; i++) {
            for (int k = 0; k < bytes[i].length; k++) {
                Check.due("byteOf(" + i + ", " + k + ")", x.byteOf(i, k), bytes[i][k]);
            }
        }
        Check.due("literal(8)", x.literal(8), -1);
        Check.due("number(8)", x.number(8), 0);
        Check.due("length(8)", x.length(8), -1);
        Check.due("byteOf(8, 0)", x.byteOf(8, 0), -1);
        for (int b = 0; b < 256; b++) {
            String hex = Integer.toHexString(256 + b).substring(1);
            if (b % 16 == 0) {
                x = Check.withSchema();
            }
            Check.stands(x, "select id where name = '\\x" + hex + "'");
            Check.due("byteOf(0, 0) of " + hex, x.byteOf(0, 0), b);
        }
    }

    private static void outside() {
        QueryText x = Check.withSchema();
        Check.stands(x, "select count where name = 'a' group by id");
        for (int i : OUTSIDE) {
            Check.due("count", x.count(i), -1);
            Check.due("item", x.item(i, 0), -1);
            Check.due("item", x.item(0, i), -1);
            Check.due("by", x.by(i), -1);
            Check.due("step", x.step(i, 0), -1);
            Check.due("step", x.step(0, i), -1);
            Check.due("literal", x.literal(i), -1);
            Check.due("number", x.number(i), 0);
            Check.due("length", x.length(i), -1);
            Check.due("byteOf", x.byteOf(i, 0), -1);
            Check.due("byteOf", x.byteOf(0, i), -1);
        }
    }
}
