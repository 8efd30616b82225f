/** The bounds that the document's Terms name for a QUERY, its parts and their TYPES; one method a sentence. */
public final class BoundsOfQueryTest {
    private static final String[] VALUES = {"paid", "id", "home.since", "name"};
    private static final String[] ALIKE = {"old", "age", "home.since", "home.town"};
    private static final String[] NOT_FLAT_OR_GROUPS = {"tags", "orders.total", "orders.part.no", "home", "home.last",
        "orders", "orders.part"};

    public static void main(String[] args) {
        parts();
        manyItems();
        manyBehindBy();
        dots();
        whereNamesLie();
        itemForms();
        collects();
        testForms();
        inLists();
        operators();
        numbersInFront();
        numbersIn64Bits();
        textLengths();
        textBytes();
        textEscapes();
        textHexDigits();
        nested();
        nestedAgain();
        manySteps();
        manyLiterals();
        manyTextBytes();
        flatNoGroups();
        literalTypes();
        comparedTypes();
        sums();
        collectedItems();
        twiceBehindBy();
        Check.end();
    }

    private static void parts() {
        Check.sentence("A QUERY: select ITEM , ITEM .. , perhaps where CONDITION, perhaps group by PATH , PATH .. .");
        Bounds.row("counts", Bounds.counts(Bounds.taken("select id")), 1, 0, 0, 0, 0);
        Bounds.row("counts", Bounds.counts(Bounds.taken("select id, id where id = 1")), 2, 0, 1, 1, 0);
        Bounds.row("counts", Bounds.counts(Bounds.taken("select id group by id, age")), 1, 2, 0, 0, 1);
        Bounds.row("counts", Bounds.counts(Bounds.taken("select id where id = 1 group by id")), 1, 1, 1, 1, 1);
        Bounds.refused("@");
        Bounds.refused("@id");
        Bounds.refused("@id where id = 1");
        Bounds.refused("@where id = 1");
        Bounds.refused("@group by id");
        Bounds.refused("select@");
        Bounds.refused("select @where id = 1");
        Bounds.refused("select @group by id");
        Bounds.refused("select id,@");
        Bounds.refused("select @, id");
        Bounds.refused("select id @id");
        Bounds.refused("select id where@");
        Bounds.refused("select id where @group by id");
        Bounds.refused("select id where id = 1 @where id = 1");
        Bounds.refused("select id group@");
        Bounds.refused("select id group @id");
        Bounds.refused("select id group by@");
        Bounds.refused("select id group by id,@");
        Bounds.refused("select id group by id @age");
        Bounds.refused("select id group by id @group by age");
        Bounds.refused("select id group by id @where id = 1");
        Bounds.refused("select id @select id");
    }

    private static void manyItems() {
        Check.sentence("At most 16 items");
        QueryText x = Bounds.taken("select " + "id,".repeat(15) + "age");
        Check.due("count(0)", x.count(0), 16);
        Bounds.row("item 15", Bounds.item(x, 15), 0, 13);
        Bounds.row("item 16", Bounds.item(x, 16), -1, -1);
        QueryText y = Bounds.taken("select " + "count,".repeat(15) + "sum(age)");
        Check.due("count(0)", y.count(0), 16);
        Bounds.row("item 15", Bounds.item(y, 15), 3, 13);
        Bounds.refused("select " + "id,".repeat(16) + "@id");
        Bounds.refused("select " + "count,".repeat(16) + " @count");
        Bounds.refused("select " + "max(id),".repeat(16) + "\n@max(id)");
        Bounds.refused("select " + "id,".repeat(16) + "@id,id");
        Bounds.refused("select " + "id,".repeat(15) + "id @id");
    }

    private static void manyBehindBy() {
        Check.sentence("At most 16 items, 8 paths behind by");
        QueryText x = Bounds.withFields(10, 0, 1);
        String eight = "select count group by f0,f1,f2,f3,f4,f5,f6,f7";
        Bounds.refused(x, eight + ",@f8");
        Bounds.refused(x, eight + ", @f8,f9");
        Bounds.refused(x, eight + ",@f7");
        Bounds.refused(x, eight + ",@");
        Bounds.taken(x, eight);
        Check.due("count(1)", x.count(1), 8);
        Check.due("by(7)", x.by(7), 7);
        Check.due("by(8)", x.by(8), -1);
    }

    private static void dots() {
        Check.sentence("PATH: names with . between (no blanks about it)");
        QueryText x = Bounds.taken("select home.last.seen");
        Check.due("item(0, 1)", x.item(0, 1), 6);
        Bounds.refused("select home.@ last");
        Bounds.refused("select home.@\nlast");
        Bounds.refused("select home @.last");
        Bounds.refused("select home\n@.last");
        Bounds.refused("select home.@.last");
        Bounds.refused("select @.home");
        Bounds.refused("select home.@");
        Bounds.refused("select home.last.@");
        Bounds.refused("select home.@1");
        Bounds.refused("select home.@_a");
        Bounds.refused("select home.@,id");
        Bounds.refused("select id where home.since.@= 1");
        Bounds.refused("select id where id = age.@");
        Bounds.refused("select id group by home.@ since");
    }

    private static void whereNamesLie() {
        Check.sentence("the first one's field lies in the record, each other one's in the field of the name before it");
        Bounds.taken("select home, home.last, home.last.seen, orders.part.no");
        Bounds.refused("select @last");
        Bounds.refused("select @town");
        Bounds.refused("select @last.seen");
        Bounds.refused("select @home.seen");
        Bounds.refused("select @home.id");
        Bounds.refused("select @home.home");
        Bounds.refused("select @home.last.town");
        Bounds.refused("select @orders.last.seen");
        Bounds.refused("select @id.id");
        Bounds.refused("select id where @since = 1");
        Bounds.refused("select id where id = @since");
        Bounds.refused("select id group by @since");
        Bounds.refused("select count(@since)");
    }

    private static void itemForms() {
        Check.sentence("ITEM: PATH, or count, or count, sum, min or max, ( PATH )");
        QueryText x = Bounds.taken("select count, count(id), sum(id), min(id), max(id), id group by id");
        for (int i = 0; i < 5; i++) {
            Bounds.row("item " + i, Bounds.item(x, i), i + 1, i == 0 ? -1 : 0);
        }
        Bounds.row("item 5", Bounds.item(x, 5), 0, 0);
        String[] words = {"sum", "min", "max"};
        for (String word : words) {
            Bounds.refused("select " + word + "@");
            Bounds.refused("select " + word + " @, id");
            Bounds.refused("select " + word + " @id");
        }
        String[] all = {"count", "sum", "min", "max"};
        for (String word : all) {
            Bounds.refused("select " + word + "(@");
            Bounds.refused("select " + word + "(@)");
            Bounds.refused("select " + word + "(id@");
            Bounds.refused("select " + word + "(id@, id)");
            Bounds.refused("select " + word + "(@(id))");
            Bounds.refused("select " + word + "(@1)");
            Bounds.refused("select " + word + "(id)@(id)");
            Bounds.refused("select " + word + "(id ) @id");
        }
        Bounds.refused("select count @id");
        Bounds.refused("select id@(id)");
        Bounds.refused("select @(id)");
    }

    private static void collects() {
        Check.sentence("The query COLLECTS if it has by, or an item that is no PATH");
        Check.due("paths alone", Bounds.taken("select id, name where id = 1").count(4), 0);
        Check.due("by alone", Bounds.taken("select id group by id").count(4), 1);
        Check.due("count alone", Bounds.taken("select count").count(4), 1);
        String[] words = {"count", "sum", "min", "max"};
        for (String word : words) {
            Check.due(word + " alone", Bounds.taken("select " + word + "(id)").count(4), 1);
            Check.due(word + " last", Bounds.taken("select id, id, " + word + "(id) group by id").count(4), 1);
        }
        QueryText x = Bounds.taken("select count");
        Check.due("not kept from the query before", Bounds.taken(x, "select id").count(4), 0);
    }

    private static void testForms() {
        Check.sentence("TEST: not TEST, ( CONDITION ), or PATH and one of: is null; is not null; in [..] an "
                + "OPERATOR and a LITERAL or PATH.");
        Bounds.row("step 0", Bounds.step(Bounds.taken("select id where id is null"), 0), 0, 0, -1, -1, 0);
        Bounds.row("step 0", Bounds.step(Bounds.taken("select id where id is not null"), 0), 1, 0, -1, -1, 0);
        Bounds.row("step 0", Bounds.step(Bounds.taken("select id where id in (4)"), 0), 2, 0, -1, 0, 1);
        Bounds.row("step 0", Bounds.step(Bounds.taken("select id where id >= 4"), 0), 3, 0, 5, 0, 1);
        Bounds.row("step 0", Bounds.step(Bounds.taken("select id where id <> age"), 0), 4, 0, 1, 13, 0);
        Bounds.row("step 1", Bounds.step(Bounds.taken("select id where not id = 4"), 1), 5, -1, -1, -1, 0);
        Bounds.refused("select id where id@");
        Bounds.refused("select id where id is@");
        Bounds.refused("select id where id is @true");
        Bounds.refused("select id where id is not@");
        Bounds.refused("select id where id is not @not null");
        Bounds.refused("select id where id @null");
        Bounds.refused("select id where id @not null");
        Bounds.refused("select id where id @not in (1)");
        Bounds.refused("select id where id =@");
        Bounds.refused("select id where id = @null");
        Bounds.refused("select id where id = @(age)");
        Bounds.refused("select id where id = age @= 1");
        Bounds.refused("select id where paid = @null");
        Bounds.refused("select id where paid = @(true)");
        Bounds.refused("select id where paid = @,");
        Bounds.refused("select id where paid =@");
        Bounds.refused("select id where @4 = id");
        Bounds.refused("select id where paid @and id = 1");
        Bounds.refused("select id where not@");
        Bounds.refused("select id where (@");
        Bounds.refused("select id where (@)");
        Bounds.refused("select id where (id = 1@");
        Bounds.refused("select id where (id = 1 @, id = 1)");
        Bounds.refused("select id where id = 1@)");
        Bounds.refused("select id where id = 1 and@");
        Bounds.refused("select id where id = 1 or@");
        Bounds.refused("select id where @or id = 1");
        Bounds.refused("select id where id = 1 and @and id = 1");
        Bounds.refused("select id where id = 1 @not id = 1");
    }

    private static void inLists() {
        Check.sentence("in ( LITERAL , .. )");
        QueryText x = Bounds.taken("select id where id in (4) or id in (5, 6)");
        Bounds.row("step 0", Bounds.step(x, 0), 2, 0, -1, 0, 1);
        Bounds.row("step 1", Bounds.step(x, 1), 2, 0, -1, 1, 2);
        Bounds.refused("select id where id in@");
        Bounds.refused("select id where id in @4");
        Bounds.refused("select id where id in (@");
        Bounds.refused("select id where id in (@)");
        Bounds.refused("select id where id in (4@");
        Bounds.refused("select id where id in (4,@");
        Bounds.refused("select id where id in (4,@)");
        Bounds.refused("select id where id in (@, 4)");
        Bounds.refused("select id where id in (4 @5)");
        Bounds.refused("select id where id in (@age)");
        Bounds.refused("select id where id in (4, @age)");
        Bounds.refused("select id where id in (@(4))");
        Bounds.refused("select id where id in (4)@)");
        Bounds.refused("select id where paid in (@)");
        Bounds.refused("select id where paid in (true, @)");
        Bounds.refused("select id where paid in (@null)");
    }

    private static void operators() {
        Check.sentence("OPERATORS: = <> < <= > >=");
        String[] operators = {"=", "<>", "<", "<=", ">", ">="};
        for (int i = 0; i < operators.length; i++) {
            QueryText x = Bounds.taken("select id where id" + operators[i] + "4 or id" + operators[i] + "age");
            Bounds.row("step 0", Bounds.step(x, 0), 3, 0, i, 0, 1);
            Bounds.row("step 1", Bounds.step(x, 1), 4, 0, i, 13, 0);
        }
        Bounds.refused("select id where id =@= 4");
        Bounds.refused("select id where id =@< 4");
        Bounds.refused("select id where id =@> 4");
        Bounds.refused("select id where id <@< 4");
        Bounds.refused("select id where id >@> 4");
        Bounds.refused("select id where id >@< 4");
        Bounds.refused("select id where id <>@= 4");
        Bounds.refused("select id where id <=@= 4");
        Bounds.refused("select id where id >=@> 4");
        Bounds.refused("select id where id @!= 4");
        Bounds.refused("select id where id <@");
        Bounds.refused("select id where id >=@");
    }

    private static void number(String digits, long due) {
        QueryText x = Bounds.taken("select id where home.since = " + digits);
        Check.due("literal(0)", x.literal(0), 2);
        Check.due("number(0) of " + digits, x.number(0), due);
        QueryText y = Bounds.taken("select id where id in (3," + digits + ",4)");
        Check.due("number(1) of " + digits, y.number(1), due);
        Check.due("number(2)", y.number(2), 4);
    }

    private static void noNumber(String digits) {
        Bounds.refused("select id where home.since = @" + digits);
        Bounds.refused("select id where id in (3,@" + digits + ",4)");
    }

    private static void numbersInFront() {
        Check.sentence("a NUMBER (perhaps - , digits without a 0 in front, not - 0");
        number("0", 0L);
        number("1", 1L);
        number("9", 9L);
        number("10", 10L);
        number("-1", -1L);
        number("-10", -10L);
        noNumber("00");
        noNumber("01");
        noNumber("-0");
        noNumber("-00");
        noNumber("-01");
        noNumber("00000000000000000000000000000000001");
        noNumber("--1");
        noNumber("+1");
        noNumber("- 1");
        noNumber("-a");
        noNumber(".5");
        Bounds.refused("select id where id = 5@.5");
        Bounds.refused("select id where id = 5@-5");
        Bounds.refused("select id where id = 5@a");
        Bounds.refused("select id where id = 5@'");
        Bounds.refused("select id where id = -@");
    }

    private static void numbersIn64Bits() {
        Check.sentence("a NUMBER (perhaps [..] in 64 bits");
        number("2147483647", 2147483647L);
        number("2147483648", 2147483648L);
        number("-2147483649", -2147483649L);
        number("999999999999999999", 999999999999999999L);
        number("9223372036854775799", 9223372036854775799L);
        number("9223372036854775807", Long.MAX_VALUE);
        number("-9223372036854775807", -Long.MAX_VALUE);
        number("-9223372036854775808", Long.MIN_VALUE);
        noNumber("9223372036854775808");
        noNumber("9223372036854775809");
        noNumber("9223372036854775810");
        noNumber("9300000000000000000");
        noNumber("-9223372036854775809");
        noNumber("-9223372036854775810");
        noNumber("10000000000000000000");
        noNumber("18446744073709551615");
        noNumber("18446744073709551616");
        noNumber("-18446744073709551617");
        noNumber("92233720368547758070");
        noNumber("340282366920938463463374607431768211457");
        noNumber("1" + "0".repeat(64));
        noNumber("-1" + "0".repeat(1900));
    }

    private static void textLengths() {
        Check.sentence("a TEXT ( ' , at most 255 bytes");
        String[] sorts = {"a", "\\'", "\\\\", "\\x00"};
        for (String sort : sorts) {
            for (int length = 0; length <= 255; length += length == 0 ? 1 : 127) {
                QueryText x = Bounds.taken("select id where name = '" + sort.repeat(length) + "'");
                Check.due("length(0)", x.length(0), length);
                Check.due("byteOf, the last", x.byteOf(0, length - 1), length == 0 ? -1 : byteOf(sort));
                Check.due("byteOf, one more", x.byteOf(0, length), -1);
            }
            String most = sort.repeat(255);
            Bounds.refused("select id where name = '" + most + "@a'");
            Bounds.refused("select id where name = '" + most + "@ '");
            Bounds.refused("select id where name = '" + most + "@\\''");
            Bounds.refused("select id where name = '" + most + "@\\xff'");
            Bounds.refused("select id where name = '" + most + "@aa");
            Bounds.refused("select id where name in ('', '" + most + "@b')");
        }
    }

    private static int byteOf(String sort) {
        return sort.equals("\\x00") ? 0 : sort.charAt(sort.length() - 1);
    }

    private static void textBytes() {
        Check.sentence("each from 32 to 126 stands for itself");
        for (int b = 0; b < 256; b++) {
            char c = (char) b;
            if (b < 32 || b > 126) {
                Bounds.refused("select id where name = 'a@" + c + "b'");
                Bounds.refused("select id where name = '@" + c);
            } else if (c == '\'') {
                Bounds.refused("select id where name = 'a" + c + "@b'");
            } else if (c == '\\') {
                Bounds.refused("select id where name = 'a@" + c + "b'");
            } else {
                QueryText x = Bounds.taken("select id where name = '" + c + "b" + c + "'");
                Bounds.row("text 0", Bounds.text(x, 0), b, 'b', b);
            }
        }
    }

    private static void textEscapes() {
        Check.sentence("but \\ before ' or itself stands for these, and before x and two digits [..] for that byte");
        for (int b = 0; b < 256; b++) {
            char c = (char) b;
            if (c == '\'' || c == '\\') {
                QueryText x = Bounds.taken("select id where name = '\\" + c + "a\\" + c + "'");
                Bounds.row("text 0", Bounds.text(x, 0), b, 'a', b);
            } else {
                Bounds.refused("select id where name = 'a@\\" + c + "'");
                Bounds.refused("select id where name = '\\x40@\\" + c + "g1'");
            }
            String hex = Integer.toHexString(256 + b).substring(1);
            QueryText x = Bounds.taken("select id where name = '\\x" + hex + "0\\x" + hex + "'");
            Bounds.row("text 0", Bounds.text(x, 0), b, '0', b);
        }
    }

    private static void textHexDigits() {
        Check.sentence("two digits 0 .. 9, a .. f");
        for (int b = 0; b < 256; b++) {
            char c = (char) b;
            int value = "0123456789abcdef".indexOf(c);
            if (value >= 0) {
                QueryText x = Bounds.taken("select id where name = '\\x" + c + "1\\x1" + c + "'");
                Bounds.row("text 0", Bounds.text(x, 0), value * 16 + 1, 16 + value);
            } else {
                Bounds.refused("select id where name = '@\\x" + c + "1'");
                Bounds.refused("select id where name = '@\\x1" + c + "'");
            }
        }
    }

    private static void nested() {
        Check.sentence("At most 32 not, ( in one another in a condition");
        QueryText x = Bounds.taken("select id where " + "not ".repeat(32) + "id = 1");
        Check.due("count(2)", x.count(2), 33);
        QueryText y = Bounds.taken("select id where " + "(".repeat(32) + "id = 1" + ")".repeat(32));
        Check.due("count(2)", y.count(2), 1);
        QueryText z = Bounds.taken("select id where " + "not (".repeat(16) + "id in (1, 2)" + ")".repeat(16));
        Check.due("count(2)", z.count(2), 17);
        Bounds.refused("select id where " + "not ".repeat(32) + "@not id = 1");
        Bounds.refused("select id where " + "not ".repeat(32) + "@(id = 1)");
        Bounds.refused("select id where " + "(".repeat(32) + "@(id = 1" + ")".repeat(33));
        Bounds.refused("select id where " + "(".repeat(32) + "@not id = 1" + ")".repeat(32));
        Bounds.refused("select id where " + "not (".repeat(16) + "@not id = 1" + ")".repeat(16));
        Bounds.refused("select id where not " + "(".repeat(31) + "@(id = 1" + ")".repeat(32));
        Bounds.taken("select id where " + "not ".repeat(32) + "id is not null");
        Bounds.taken("select id where " + "(".repeat(32) + "id is not null" + ")".repeat(32));
        Bounds.taken("select count(id), sum(age) where " + "(".repeat(32) + "id in (1)" + ")".repeat(32));
    }

    private static void nestedAgain() {
        Check.sentence("At most 32 not, ( in one another in a condition", "those that have ended don't count");
        String deep = "(".repeat(32) + "id = 1" + ")".repeat(32);
        QueryText x = Bounds.taken("select id where " + deep + " and " + deep + " or " + deep);
        Check.due("count(2)", x.count(2), 5);
        String nots = "not ".repeat(15) + "id = 1";
        Bounds.taken("select id where " + nots + " and " + nots + " or " + nots);
        Bounds.taken("select id where " + "(".repeat(31) + "not id = 1 and not id = 2 or (id = 3)" + ")".repeat(31));
        Bounds.taken("select id where not (" + "(".repeat(30) + "id = 1" + ")".repeat(30) + " or " + "not ".repeat(30)
                + "id = 1)");
        Bounds.refused("select id where not (" + "(".repeat(30) + "id = 1" + ")".repeat(30) + " or " + "not ".repeat(30)
                + "@not id = 1)");
        Bounds.refused("select id where " + deep + " and " + "(".repeat(32) + "@(id = 1" + ")".repeat(33));
        Bounds.refused("select id where " + "(".repeat(32) + "id = 1 or id = 2 and @not id = 1" + ")".repeat(32));
        // As much as can wait to be joined: the 33rd ( and the 65th STEP come only now.
        Bounds.refused("select id where " + "id is null or id is null and (".repeat(32) + "@id is null");
        Bounds.refused("select id where " + "id is null or id is null and (".repeat(32) + "@(id is null)");
    }

    private static void manySteps() {
        Check.sentence("64 STEPS");
        String tests = "id is null" + " or id is null".repeat(31);
        QueryText x = Bounds.taken("select id where " + tests);
        Check.due("count(2)", x.count(2), 63);
        QueryText y = Bounds.taken("select id where not (" + tests + ")");
        Check.due("count(2)", y.count(2), 64);
        Bounds.row("step 62", Bounds.step(y, 62), 7, -1, -1, -1, 0);
        Bounds.row("step 63", Bounds.step(y, 63), 5, -1, -1, -1, 0);
        Bounds.row("step 64", Bounds.step(y, 64), -1, -1, -1, -1, -1);
        QueryText z = Bounds.taken("select id where not " + tests);
        Check.due("count(2)", z.count(2), 64);
        Bounds.row("step 63", Bounds.step(z, 63), 7, -1, -1, -1, 0);
        Bounds.refused("select id where @not not (" + tests + ")");
        Bounds.refused("select id where " + tests + " @or id is null");
        Bounds.refused("select id where not " + tests + " or @id is null");
        Bounds.refused("select id where not not " + "id is null" + " or id is null".repeat(30) + " @or id is null");
    }

    private static void manyLiterals() {
        Check.sentence("64 literals");
        String some = "select id where id in (" + "5,".repeat(62) + "6";
        QueryText x = Bounds.taken(some + ", 7)");
        Check.due("count(3)", x.count(3), 64);
        Bounds.row("step 0", Bounds.step(x, 0), 2, 0, -1, 0, 64);
        Check.due("literal(63)", x.literal(63), 2);
        Check.due("number(63)", x.number(63), 7);
        Check.due("literal(64)", x.literal(64), -1);
        Check.due("number(64)", x.number(64), 0);
        QueryText y = Bounds.taken(some + ") and name = 'ab'");
        Check.due("count(3)", y.count(3), 64);
        Bounds.row("text 63", Bounds.text(y, 63), 'a', 'b');
        Bounds.taken(some + ", 7) and id = age and id is null");
        Bounds.refused(some + ", 7, @8)");
        Bounds.refused(some + ", 7) or id = @8");
        Bounds.refused(some + ", 7) or name = @''");
        Bounds.refused(some + ", 7) or paid in (@true)");
        Bounds.refused(some + ") or id in (7, @8, 9)");
    }

    private static void manyTextBytes() {
        Check.sentence("2000 bytes of TEXTS (a tape never has more)");
        String front = "select id where name in (";
        StringBuilder texts = new StringBuilder();
        for (int i = 0; i < 7; i++) {
            texts.append("'").append(("" + i).repeat(255)).append("',");
        }
        int left = 2000 - front.length() - texts.length() - 3;
        QueryText x = Bounds.taken(front + texts + "'" + "z".repeat(left) + "')");
        Check.due("count(3)", x.count(3), 8);
        for (int i = 0; i < 7; i++) {
            Check.due("length(" + i + ")", x.length(i), 255);
            Check.due("the first byte of " + i, x.byteOf(i, 0), '0' + i);
            Check.due("the last byte of " + i, x.byteOf(i, 254), '0' + i);
        }
        Check.due("length(7)", x.length(7), left);
        Check.due("the last byte of all", x.byteOf(7, left - 1), 'z');
        Bounds.refused(front + texts + "'" + "z".repeat(left + 2) + "@");
    }

    private static void flatNoGroups() {
        Check.sentence("TYPES: PATHS in a condition, behind by, and in count ( .. ) and the others, are FLAT and no "
                + "groups");
        String[] words = {"count", "sum", "min", "max"};
        for (String path : NOT_FLAT_OR_GROUPS) {
            Bounds.taken("select " + path);
            Bounds.refused("select id where @" + path + " is null");
            Bounds.refused("select id where @" + path + " is not null");
            Bounds.refused("select id where @" + path + " in (1)");
            Bounds.refused("select id where @" + path + " = " + path);
            Bounds.refused("select id where id = @" + path);
            Bounds.refused("select id where name = @" + path);
            Bounds.refused("select count group by @" + path);
            Bounds.refused("select count group by id, @" + path);
            for (String word : words) {
                Bounds.refused("select " + word + "(@" + path + ")");
            }
        }
    }

    private static void literalTypes() {
        Check.sentence("a literal is of the PATH's type (a NUMBER for int and long)");
        String[] literals = {"true", "false", "1", "-1", "'1'", "''"};
        int[] typeOf = {0, 0, 2, 2, 3, 3};
        for (int type = 0; type < 4; type++) {
            for (int i = 0; i < literals.length; i++) {
                boolean fits = typeOf[i] == (type == 1 ? 2 : type);
                String mark = fits ? "" : "@";
                String compared = "select id where " + VALUES[type] + " = " + mark + literals[i];
                String in = "select id where " + VALUES[type] + " in (" + mark + literals[i] + ")";
                if (fits) {
                    Check.due("literal(0)", Bounds.taken(compared).literal(0), typeOf[i]);
                    Check.due("literal(0)", Bounds.taken(in).literal(0), typeOf[i]);
                } else {
                    Bounds.refused(compared);
                    Bounds.refused(in);
                }
            }
        }
        Bounds.refused("select id where id in (1, 2, @'3')");
        Bounds.refused("select id where name in ('1', @2, '3')");
    }

    private static void comparedTypes() {
        Check.sentence("two PATHS compared are of one type, or both int or long");
        for (int type = 0; type < 4; type++) {
            for (int other = 0; other < 4; other++) {
                boolean bothNumbers = (type == 1 || type == 2) && (other == 1 || other == 2);
                if (type == other || bothNumbers) {
                    Bounds.taken("select id where " + VALUES[type] + " <= " + ALIKE[other]);
                } else {
                    Bounds.refused("select id where " + VALUES[type] + " <= @" + ALIKE[other]);
                }
            }
        }
        Bounds.taken("select id where id = id");
    }

    private static void sums() {
        Check.sentence("sum is of int or long");
        Bounds.refused("select sum(@paid)");
        Bounds.refused("select sum(@name)");
        Bounds.row("item 0", Bounds.item(Bounds.taken("select sum(id)"), 0), 3, 0);
        Bounds.row("item 0", Bounds.item(Bounds.taken("select sum(home.since)"), 0), 3, 4);
        for (String path : VALUES) {
            Bounds.taken("select count(" + path + "), min(" + path + "), max(" + path + ")");
        }
    }

    private static void collectedItems() {
        Check.sentence("Where a query COLLECTS, an ITEM that is a PATH is one of those behind by");
        Bounds.taken("select home.town, count, id, home.town group by id, home.town, age");
        Bounds.taken("select name, home, orders.total, tags");
        Bounds.refused("select @id, count");
        Bounds.refused("select count, @id");
        Bounds.refused("select id, @age group by id");
        Bounds.refused("select @age, id group by id");
        Bounds.refused("select id, @age, old, count group by id");
        Bounds.refused("select max(age), id, @age group by id");
        Bounds.refused("select @home group by home.town");
        Bounds.refused("select @tags, count");
    }

    private static void twiceBehindBy() {
        Check.sentence("No PATH is there twice behind by");
        Bounds.taken("select count group by id, age");
        Bounds.taken("select id, id group by id");
        Bounds.refused("select count group by id, @id");
        Bounds.refused("select count group by id, age, @id");
        Bounds.refused("select count group by home.last.seen, home.town, @home.last.seen, id");
        Bounds.refused("select count group by id, age, @age, id");
    }
}
