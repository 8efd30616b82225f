/** Promise 4: what stands, and the place of what can't; a mark @ stands before the place that is due. */
public final class QueryTest {
    public static void main(String[] args) {
        tapeAndQuery();
        blanks();
        selects();
        paths();
        items();
        tests();
        numbers();
        texts();
        types();
        groups();
        limits();
        firstMet();
        Check.end();
    }

    private static void tapeAndQuery() {
        QueryText x = Check.withSchema();
        Check.feed(x, "select id, name#");
        Check.due("n below 0", x.query(-1), -2);
        Check.due("n far below 0", x.query(Integer.MIN_VALUE), -2);
        Check.due("too many", x.query(21), -2);
        Check.due("far too many", x.query(Integer.MAX_VALUE), -2);
        Check.due("the first n bytes alone", x.query(15), -1);
        Check.due("count(0)", x.count(0), 2);
        Check.due("the tape is empty then", x.query(1), -2);
        Check.due("the query stays", x.count(0), 2);
        Check.falls(x, "select name where name = 'abc' or @count");
        Check.falls(x, "select paid where name = 'abc' or @#");
        Check.due("the query stays", x.count(0), 2);
        Check.due("the query stays", x.count(2), 0);
        Check.due("the query stays", x.count(3), 0);
        Check.due("the tape is empty then", x.query(1), -2);
        Check.stands(x, "select name where name = 'abc'");
        Check.falls(x, "select name where name = 'xyz' @'");
        Check.due("the text stays", x.byteOf(0, 1), 'b');
        Check.due("query(0)", x.query(0), 0);
        Check.due("the text stays", x.byteOf(0, 2), 'c');
        Check.stands(x, "select count");
        Check.due("nothing of the query before", x.count(2), 0);
        Check.due("nothing of the query before", x.count(3), 0);
        Check.due("nothing of the query before", x.byteOf(0, 0), -1);
        Check.due("nothing of the query before", x.step(0, 0), -1);
    }

    private static void blanks() {
        QueryText x = Check.withSchema();
        Check.stands(x, "select\nid\n,\n\n name where\nid=1and(name\n='a'or paid<>true)group\nby id,name");
        Check.stands(x, "  select id \n");
        Check.stands(x, "select count ( id ) , count( name)");
        Check.stands(x, "select id where id in(1,2)or not(paid=true)");
        Check.falls(x, "   @");
        Check.falls(x, "select @\tid");
        Check.falls(x, "select id@\r");
        Check.falls(x, "select id where id = 1 and  \n@");
        Check.falls(x, "@selectid");
        Check.falls(x, "select id @wherepaid = true");
        Check.falls(x, "select id where id @isnull");
        Check.falls(x, "select id where id < @= 1");
        Check.falls(x, "select id where id < @> 1");
        Check.falls(x, "select id where id > @= 1");
        Check.falls(x, "select id where id = @- 1");
    }

    private static void selects() {
        QueryText x = Check.withSchema();
        Check.falls(x, "@");
        Check.falls(x, "@id");
        Check.falls(x, "@Select id");
        Check.falls(x, "select@");
        Check.falls(x, "select @where");
        Check.falls(x, "select @, id");
        Check.falls(x, "select id @id");
        Check.falls(x, "select id,@");
        Check.falls(x, "select id, @, id");
        Check.falls(x, "select id where@");
        Check.falls(x, "select id where id = 1 @where id = 1");
        Check.falls(x, "select id where id = 1 @, id");
        Check.falls(x, "select id where id = 1 @)");
        Check.falls(x, "select id @;");
        Check.falls(x, "select id @\u00e9");
        Check.falls(x, "select id @'abc");
        Check.falls(x, "select id @007");
        Check.falls(x, "select id.@");
        Check.falls(x, "select id @and id = 1");
    }

    private static void paths() {
        QueryText x = Check.withSchema();
        Check.stands(x, "select home.last.seen,orders.part.no,orders,home.last,tags");
        Check.falls(x, "select @nothing");
        Check.falls(x, "select @Id");
        Check.falls(x, "select @town");
        Check.falls(x, "select @i");
        Check.falls(x, "select @idx");
        Check.falls(x, "select @id.id");
        Check.falls(x, "select @home.id");
        Check.falls(x, "select @home.last.town");
        Check.falls(x, "select @nothing.id");
        Check.falls(x, "select @home.nothing.town");
        Check.falls(x, "select @abcdefghijklmnopqrstuvwxyz");
        Check.falls(x, "select home.@1");
        Check.falls(x, "select nothing.@1");
        Check.falls(x, "select home.@ town");
        Check.falls(x, "select home @.town");
        Check.falls(x, "select home.@_a");
        Check.falls(x, "select home.@.town");
        Check.falls(x, "select home.@");
        Check.falls(x, "select home.town.@");
        Check.falls(x, "select home.@where");
        Check.falls(x, "select nothing.@by");
        Check.falls(x, "select id where home.town.@'a'");
        Check.due("a field of a reserved name", Check.field(x, 2, 0, 1, "where"), 15);
        Check.falls(x, "select home.@where");
        String[] reserved = {"select", "where", "group", "by", "and", "or", "not", "is", "null", "in", "true", "false",
            "count", "sum", "min", "max"};
        for (int i = 0; i < reserved.length; i++) {
            Check.due(reserved[i], Check.field(x, -1, 0, 1, reserved[i]), 16 + i);
            if (i < 12) {
                Check.falls(x, "select @" + reserved[i]);
            }
            Check.falls(x, "select id where " + (reserved[i].equals("not") ? "not @= 1" : "@" + reserved[i] + " = 1"));
            Check.falls(x, "select id where id = @" + reserved[i] + (i == 10 || i == 11 ? "" : " "));
            Check.falls(x, "select id group by @" + reserved[i]);
            Check.falls(x, "select count(@" + reserved[i] + ")");
        }
        String[] near = {"selec", "selects", "Select", "b", "byy", "no", "nott", "nul", "tru", "falsee", "coun", "su"};
        for (int i = 0; i < near.length; i++) {
            Check.due(near[i], Check.field(x, -1, 0, 1, near[i]), 32 + i);
            Check.stands(x, "select " + near[i]);
        }
    }

    private static void items() {
        QueryText x = Check.withSchema();
        Check.stands(x, "select count,count(id),sum(id),sum(home.since),min(name),max(paid),count(home.last.seen)");
        Check.stands(x, "select id, id, id");
        Check.falls(x, "select sum@");
        Check.falls(x, "select sum @, id");
        Check.falls(x, "select count(@");
        Check.falls(x, "select count(@)");
        Check.falls(x, "select count(id@");
        Check.falls(x, "select count(id @, id)");
        Check.falls(x, "select count(@1)");
        Check.falls(x, "select count(@count)");
        Check.falls(x, "select count(@(id))");
        Check.falls(x, "select count@.id");
        Check.falls(x, "select count(@home)");
        Check.falls(x, "select count(@tags)");
        Check.falls(x, "select min(@orders.total)");
        Check.falls(x, "select max(@orders.part.no");
        Check.falls(x, "select sum(@name)");
        Check.falls(x, "select sum(@paid #");
        Check.falls(x, "select sum(@nothing");
        Check.falls(x, "select id@(id)");
    }

    private static void tests() {
        QueryText x = Check.withSchema();
        Check.stands(x, "select id where not not (((id = 1))) and (not id is null or paid in (true, false))");
        Check.falls(x, "select id where id@");
        Check.falls(x, "select id where id @and id = 1");
        Check.falls(x, "select id where id is@");
        Check.falls(x, "select id where id is @1");
        Check.falls(x, "select id where id is not@");
        Check.falls(x, "select id where id is not @not null");
        Check.falls(x, "select id where id @not null");
        Check.falls(x, "select id where id @not in (1)");
        Check.falls(x, "select id where id in@");
        Check.falls(x, "select id where id in @1");
        Check.falls(x, "select id where id in (@)");
        Check.falls(x, "select id where id in (1@");
        Check.falls(x, "select id where id in (1 @2)");
        Check.falls(x, "select id where id in (1,@)");
        Check.falls(x, "select id where id in (@id)");
        Check.falls(x, "select id where id in (@null)");
        Check.falls(x, "select id where id in (@(1))");
        Check.falls(x, "select id where id =@");
        Check.falls(x, "select id where id = @= 1");
        Check.falls(x, "select id where id @! = 1");
        Check.falls(x, "select id where id = @(1)");
        Check.falls(x, "select id where id = @not");
        Check.falls(x, "select id where id = 1 @= 1");
        Check.falls(x, "select id where @1 = id");
        Check.falls(x, "select id where @true");
        Check.falls(x, "select id where @and id = 1");
        Check.falls(x, "select id where not@");
        Check.falls(x, "select id where not @and");
        Check.falls(x, "select id where (@)");
        Check.falls(x, "select id where (id = 1@");
        Check.falls(x, "select id where (id = 1 @group by id");
        Check.falls(x, "select id where (id = 1)@)");
        Check.falls(x, "select id where (id = 1 or@");
        Check.falls(x, "select id where (id = 1) @(id = 1)");
        Check.falls(x, "select id where (id@, id) = 1");
        Check.falls(x, "select id where id = 1 and @or id = 1");
    }

    private static void numbers() {
        QueryText x = Check.withSchema();
        String[] right = {"0", "7", "-1", "10", "9223372036854775807", "-9223372036854775808", "4294967296", "-100"};
        for (String number : right) {
            Check.stands(x, "select id where id = " + number);
            Check.due("number(0) of " + number, x.number(0), Long.parseLong(number));
            Check.due("literal(0) of " + number, x.literal(0), 2);
        }
        String[] wrong = {"-0", "00", "01", "-01", "-007", "9223372036854775808", "-9223372036854775809",
            "9223372036854775810", "10000000000000000000", "-10000000000000000000", "18446744073709551617",
            "92233720368547758070", "99999999999999999999999999999999999999999", "-x", "--1", "- 1", "-'a'", "00x"};
        for (String number : wrong) {
            Check.falls(x, "select id where id = @" + number);
            Check.falls(x, "select id where home.since in (1, @" + number + ")");
        }
        Check.falls(x, "select id where id = -@");
        Check.falls(x, "select id where id = @+1");
        Check.falls(x, "select id where id = 1@.5");
        Check.falls(x, "select id where id = 1@x");
        Check.falls(x, "select id where id = 1@-1");
        Check.falls(x, "select id @-1");
        Check.stands(x, "select id where id=-1and id<-2or id>=-3");
    }

    private static void texts() {
        QueryText x = Check.withSchema();
        Check.stands(x, "select id where name = ''");
        Check.due("length(0)", x.length(0), 0);
        Check.stands(x, "select id where name = ' ~\"select#\\\\\\'\\x00\\xff\\x9a'");
        Check.falls(x, "select id where name = '@");
        Check.falls(x, "select id where name = 'abc@");
        Check.falls(x, "select id where name = 'ab\\'@");
        Check.falls(x, "select id where name = 'a\\@");
        Check.falls(x, "select id where name = 'a\\x@");
        Check.falls(x, "select id where name = 'a\\x1@");
        Check.falls(x, "select id where name = 'a\\x1f@");
        Check.falls(x, "select id where name = 'a@\\n'");
        Check.falls(x, "select id where name = 'a@\\X41'");
        Check.falls(x, "select id where name = 'a@\\x4A'");
        Check.falls(x, "select id where name = 'a@\\xA4'");
        Check.falls(x, "select id where name = 'a@\\xg1'");
        Check.falls(x, "select id where name = 'a@\\x1'");
        Check.falls(x, "select id where name = 'a@\\x'");
        Check.falls(x, "select id where name = 'a@\\xg");
        Check.falls(x, "select id where name = 'a@\\x1g");
        Check.falls(x, "select id where name = 'a@\\ '");
        Check.falls(x, "select id where name = 'a@\nb'");
        Check.falls(x, "select id where name = 'a@\u007fb'");
        Check.falls(x, "select id where name = 'a@\u001fb'");
        Check.falls(x, "select id where name = 'a@\u0080b'");
        Check.falls(x, "select id where name = 'a@\u00ff");
        Check.falls(x, "select id where name = 'a' @'b'");
        String most = "a".repeat(255);
        Check.stands(x, "select id where name = '" + most + "'");
        Check.due("length(0)", x.length(0), 255);
        Check.falls(x, "select id where name = '" + most + "@a'");
        Check.falls(x, "select id where name = '" + most + "@\\x41'");
        Check.falls(x, "select id where name = '" + most + "@\\q'");
        Check.falls(x, "select id where name = '" + most + "@");
        Check.falls(x, "select id where id = '" + most + "@a'");
        Check.stands(x, "select id where name = '" + "\\x41".repeat(255) + "'");
        Check.due("length(0)", x.length(0), 255);
        Check.due("byteOf(0, 254)", x.byteOf(0, 254), 65);
        Check.falls(x, "select id where name = '" + "\\x41".repeat(255) + "@\\''");
        Check.falls(x, "select id where name = '" + "\\'".repeat(255) + "@ '");
        Check.stands(x, "select id where name in ('" + most + "','" + most + "','" + most + "','" + most + "','" + most
                + "','" + most + "','" + most + "')");
        Check.due("length(6)", x.length(6), 255);
    }

    private static void types() {
        QueryText x = Check.withSchema();
        Check.stands(x, "select id where id = 1 and home.since < 1 and name > 'a' and paid <= true and paid <> false");
        Check.stands(x, "select id where id = age and id = home.since and home.since > id and name = home.town");
        Check.stands(x, "select id where paid = old and paid < home.last.seen and id = id");
        Check.falls(x, "select id where id = @'a'");
        Check.falls(x, "select id where id = @true");
        Check.falls(x, "select id where home.since = @false");
        Check.falls(x, "select id where name = @1");
        Check.falls(x, "select id where name = @true");
        Check.falls(x, "select id where paid = @1");
        Check.falls(x, "select id where paid = @'true'");
        Check.falls(x, "select id where id in (1, @'a', 2)");
        Check.falls(x, "select id where name in (@1)");
        Check.falls(x, "select id where id = @name");
        Check.falls(x, "select id where id = @paid");
        Check.falls(x, "select id where name = @home.since");
        Check.falls(x, "select id where paid = @id");
        Check.falls(x, "select id where home.since = @orders.total");
        Check.falls(x, "select id where name = @tags");
        Check.falls(x, "select id where id = @home");
        Check.falls(x, "select id where id = @nothing");
        Check.falls(x, "select id where @home = home");
        Check.falls(x, "select id where @home is null");
        Check.falls(x, "select id where @orders is not null");
        Check.falls(x, "select id where @tags in ('a')");
        Check.falls(x, "select id where @nothing is null");
    }

    private static void groups() {
        QueryText x = Check.withSchema();
        Check.stands(x, "select home.town, count, name where id = 1 group by name, home.town");
        Check.stands(x, "select count group by paid");
        Check.stands(x, "select paid group by paid");
        Check.falls(x, "select id group@");
        Check.falls(x, "select id group @id");
        Check.falls(x, "select id @by id");
        Check.falls(x, "select id group by@");
        Check.falls(x, "select id group by @1");
        Check.falls(x, "select id group by id,@");
        Check.falls(x, "select id group by id @name");
        Check.falls(x, "select id group by id @where id = 1");
        Check.falls(x, "select id group by id @group by id");
        Check.falls(x, "select id group by id, @id");
        Check.falls(x, "select id group by @home");
        Check.falls(x, "select orders.total group by @orders.total");
        Check.falls(x, "select tags group by id, @tags");
        Check.falls(x, "select id group by @count");
        Check.falls(x, "select id, @name group by id");
        Check.falls(x, "select @name, paid group by id");
        Check.falls(x, "select count, @id");
        Check.falls(x, "select @orders, count(id)");
        Check.falls(x, "select paid, count, @home group by paid");
    }

    private static void limits() {
        QueryText x = Check.withSchema();
        Check.stands(x, "select " + "id,".repeat(15) + "id");
        Check.falls(x, "select " + "id,".repeat(16) + "@count(nothing)");
        Check.falls(x, "select " + "id,".repeat(16) + " @home. town");
        Check.falls(x, "select " + "id,".repeat(16) + " @");
        Check.stands(x, "select " + "count(id),".repeat(15) + "count");
        QueryText y = new QueryText();
        StringBuilder by = new StringBuilder();
        for (int i = 0; i < 9; i++) {
            Check.due("field", Check.field(y, -1, 0, 1, "f" + i), i);
            by.append(i == 0 ? "" : ",").append(i == 8 ? "@" : "").append("f").append(i);
            if (i == 7) {
                Check.stands(y, "select count group by " + by);
            }
        }
        Check.falls(y, "select count group by " + by);
        Check.falls(y, "select count group by " + by + ".1");
        Check.falls(y, "select count group by " + by.substring(0, by.length() - 3) + "@");
        nesting(Check.withSchema());
        literals(Check.withSchema());
        steps(Check.withSchema());
    }

    private static void nesting(QueryText x) {
        String deep = "(not ".repeat(16);
        Check.stands(x, "select id where " + deep + "id in (1)" + ")".repeat(16));
        Check.falls(x, "select id where " + deep + "@(id = 1)" + ")".repeat(16));
        Check.falls(x, "select id where " + deep + "@not id = 1" + ")".repeat(16));
        Check.stands(x, "select id where " + deep + "id = 1" + ")".repeat(16) + " and " + "(".repeat(32) + "id = 1"
                + ")".repeat(32) + " or " + "not ".repeat(15) + "id is not null");
        Check.falls(x, "select id where " + "(".repeat(31) + "not id = 1 and not id = 2 and (id = 1 or id@)");
        Check.falls(x, "select id where " + "(".repeat(32) + "id = 1 and @not id = 2");
        Check.falls(x, "select id where " + "(".repeat(32) + "id = 1" + ")".repeat(31) + "@");
        Check.falls(x, "select id where " + "(".repeat(32) + "id = 1" + ")".repeat(32) + "@)");
        String eachWaits = "id = 1 or id = 1 and not (";
        Check.falls(x, "select id where " + eachWaits.repeat(16) + "id = 1 or id = 1 and @not id = 1");
    }

    private static void literals(QueryText x) {
        String some = "select id where id in (" + "1,".repeat(63);
        Check.stands(x, some + "2)");
        Check.due("count(3)", x.count(3), 64);
        Check.due("step(0, 4)", x.step(0, 4), 64);
        Check.falls(x, some + "2,@3)");
        Check.falls(x, some + "2,@'a')");
        Check.falls(x, some + "2,@007)");
        Check.falls(x, some + "2) and id = @1");
        Check.falls(x, some + "2) and name = 'a@\\q'");
        Check.falls(x, some + "2) and name = '@");
        Check.falls(x, some + "2) and name = @'abc'");
        Check.falls(x, some + "2) and id = @nothing");
        Check.falls(x, some + "2,@)");
        Check.stands(x, some + "2) and id = age");
        Check.stands(x, "select id where id in (1,2) and " + "id in (" + "1,".repeat(60) + "1) or paid = true");
        Check.due("number(63)", x.number(63), 1);
        Check.due("literal(63)", x.literal(63), 0);
    }

    private static void steps(QueryText x) {
        Check.falls(x, "select id where id=1" + " and id=1".repeat(31) + " and not@");
        Check.stands(x, "select id where id is null" + " or id is null".repeat(31));
        Check.due("count(2)", x.count(2), 63);
        stepTooMany(Check.withSchema(), Check.withSchema());
    }

    private static void stepTooMany(QueryText x, QueryText y) {
        String sixtyThree = "select id where id is null" + " and id is null".repeat(31);
        Check.falls(x, sixtyThree + " @and id is null");
        Check.falls(x, sixtyThree + " @or id is null");
        Check.falls(x, sixtyThree + " and @not id is null");
        Check.falls(x, sixtyThree + " @and (id is null)");
        Check.falls(x, sixtyThree + " or @not (id is null)");
        Check.falls(x, sixtyThree + " or id is null and @id is null");
        Check.falls(x, sixtyThree + " or (id is null or @id = 1)");
        Check.falls(x, sixtyThree + " or (id is null or id = @'a')");
        Check.falls(x, sixtyThree + " or (id is null or id = @nothing)");
        Check.falls(y, sixtyThree + " or (id is null or id in (1@");
        Check.falls(y, sixtyThree + " or (id is null or @id in (1)");
        Check.falls(y, sixtyThree + " or (id is null or id is not@");
        Check.falls(y, sixtyThree + " or (id is null or @id is not null");
        Check.falls(y, sixtyThree + " or (id is null or @id = age");
        Check.falls(y, sixtyThree + " or (id is null@");
        Check.falls(y, sixtyThree + " @or (id is null) #");
        Check.falls(y, sixtyThree + " @or id is null #");
        Check.falls(y, sixtyThree + " @or id is null group by nothing");
        Check.stands(y, "select id where not " + sixtyThree.substring(16));
        Check.due("count(2)", y.count(2), 64);
        Check.due("the last", y.step(63, 0), 6);
    }

    private static void firstMet() {
        QueryText x = Check.withSchema();
        Check.falls(x, "select @nothing #");
        Check.falls(x, "select @nothing, sum(name) where 1 group by 1");
        Check.falls(x, "select id where @home = 'a\\q'");
        Check.falls(x, "select id where id = 'a@\\q'");
        Check.falls(x, "select id where id = 'abc@");
        Check.falls(x, "select id, count where id = @'a'");
        Check.falls(x, "select id, count @#");
        Check.falls(x, "select id, count group by @id.id");
        Check.falls(x, "select name, count group by id,@");
        Check.falls(x, "select @name, count group by id");
        Check.falls(x, "select id where (id = 1 or @nothing = 1");
    }
}
