/** The bounds that the document's Terms name for fields, the tape, blanks and words; one method a sentence. */
public final class BoundsOfSchemaTest {
    private static final String[] RESERVED = {"select", "where", "group", "by", "and", "or", "not", "is", "null", "in",
        "true", "false", "count", "sum", "min", "max"};

    public static void main(String[] args) {
        manyFields();
        nameBytes();
        nameLengths();
        sameNames();
        groups();
        kinds();
        types();
        flatness();
        flatnessFarDown();
        tape();
        fullTape();
        cutOff();
        blanks();
        blanksBetween();
        words();
        reserved();
        nearlyReserved();
        Check.end();
    }

    private static void manyFields() {
        Check.sentence("FIELDS, at most 64, numbered from 0, make the SCHEMA");
        QueryText x = Bounds.withFields(64, 0, 1);
        Check.stands(x, "select f0, f63 where f0 = f63");
        Check.due("the 65th", Check.field(x, -1, 0, 1, "g"), -1);
        Bounds.emptyTape(x);
        NewObjectTest.answersWithoutQuery(x);
        Check.due("the 66th", Check.field(x, -1, 0, 1, "h"), -1);
        Bounds.refused(x, "select @g");
        Check.stands(x, "select f0, f63 where f0 = f63");
        Bounds.row("step 0", Bounds.step(x, 0), 4, 0, 0, 63, 0);
        QueryText groups = Bounds.withFields(63, 1, 4);
        Check.due("the 64th, in a group", Check.field(groups, 62, 0, 0, "g"), 63);
        Check.due("the 65th, in a group", Check.field(groups, 62, 0, 0, "h"), -1);
        Check.stands(groups, "select f62.g");
        Bounds.refused(Bounds.withFields(1, 0, 4), "select @f0.h");
    }

    private static void nameBytes() {
        Check.sentence("each has a NAME (a letter and letters, digits, _ ;");
        for (int b = 0; b < 256; b++) {
            nameOf("" + (char) b, Bounds.isLetter(b));
            nameOf("a" + (char) b, Bounds.isWordByte(b));
            nameOf("a" + (char) b + "a", Bounds.isWordByte(b));
            nameOf("abcdefghijklmno" + (char) b, Bounds.isWordByte(b));
        }
    }

    private static void nameOf(String name, boolean isName) {
        QueryText x = new QueryText();
        Check.due("field " + name, Check.field(x, -1, 0, 0, name), isName ? 0 : -1);
        Bounds.emptyTape(x);
        Check.due("the next number", Check.field(x, -1, 0, 0, "next"), isName ? 1 : 0);
        if (isName && !name.matches("(by|is|in|or)")) {
            Check.stands(x, "select next, " + name);
            Check.due("item(1, 1)", x.item(1, 1), 0);
        }
    }

    private static void nameLengths() {
        Check.sentence("at most 16 bytes");
        String sixteen = "abcdefghijklmnop";
        QueryText x = new QueryText();
        Check.due("no byte", x.field(-1, 0, 0, 0), -1);
        Check.due("1 byte", Check.field(x, -1, 0, 0, "a"), 0);
        Check.due("16 bytes", Check.field(x, -1, 0, 0, sixteen), 1);
        Check.due("17 bytes", Check.field(x, -1, 0, 0, sixteen + "q"), -1);
        Check.due("2000 bytes", Check.field(x, -1, 0, 0, "a".repeat(2000)), -1);
        Bounds.emptyTape(x);
        Bounds.refused(x, "select @" + sixteen + "q");
        Bounds.refused(x, "select @" + sixteen.substring(0, 15));
        Check.stands(x, "select " + sixteen);
        Check.due("item(0, 1)", x.item(0, 1), 1);
        Check.due("15 bytes", Check.field(x, -1, 0, 0, sixteen.substring(0, 15)), 2);
        Check.due("the last of 16 differs", Check.field(x, -1, 0, 0, sixteen.substring(0, 15) + "q"), 3);
        Check.stands(x, "select abcdefghijklmnoq, abcdefghijklmnop, abcdefghijklmno");
        Bounds.row("fields", new int[] {x.item(0, 1), x.item(1, 1), x.item(2, 1)}, 3, 1, 2);
    }

    private static void sameNames() {
        Check.sentence("no other field of the same group has it");
        QueryText x = new QueryText();
        Check.due("a in the record", Check.field(x, -1, 0, 4, "a"), 0);
        Check.due("b in the record", Check.field(x, -1, 0, 4, "b"), 1);
        Check.due("a again", Check.field(x, -1, 1, 0, "a"), -1);
        Check.due("a in a", Check.field(x, 0, 0, 1, "a"), 2);
        Check.due("a in a again", Check.field(x, 0, 2, 4, "a"), -1);
        Check.due("a in b", Check.field(x, 1, 0, 2, "a"), 3);
        Check.due("A is another", Check.field(x, -1, 0, 0, "A"), 4);
        Check.due("aa is another", Check.field(x, -1, 0, 0, "aa"), 5);
        Check.stands(x, "select a, a.a, b.a, A, aa");
        int[] fields = {x.item(0, 1), x.item(1, 1), x.item(2, 1), x.item(3, 1), x.item(4, 1)};
        Bounds.row("fields", fields, 0, 2, 3, 4, 5);
    }

    private static void groups() {
        Check.sentence("lies in a GROUP (a field too) or in the record itself");
        QueryText x = new QueryText();
        int[] none = {0, 1, -2, 63, 64, Integer.MAX_VALUE, Integer.MIN_VALUE};
        for (int group : none) {
            Check.due("no group " + group, Check.field(x, group, 0, 4, "a"), -1);
        }
        Check.due("in the record", Check.field(x, -1, 0, 4, "a"), 0);
        Check.due("in a", Check.field(x, 0, 0, 4, "b"), 1);
        Check.due("in b", Check.field(x, 1, 0, 4, "c"), 2);
        Check.due("in itself", Check.field(x, 3, 0, 4, "d"), -1);
        for (int type = 0; type < 4; type++) {
            Check.due("type " + type, Check.field(x, 2, 0, type, "e" + type), 3 + type);
            Check.due("in a field of type " + type, Check.field(x, 3 + type, 0, 0, "f"), -1);
        }
        Bounds.emptyTape(x);
        Bounds.refused(x, "select @a.b.c.e0.f");
        Check.stands(x, "select a.b.c.e3");
        Check.due("item(0, 1)", x.item(0, 1), 6);
    }

    private static void kinds() {
        Check.sentence("is required (kind 0), optional (1) or repeated (2)");
        QueryText x = new QueryText();
        int[] none = {-1, 3, Integer.MAX_VALUE, Integer.MIN_VALUE};
        for (int kind : none) {
            Check.due("kind " + kind, Check.field(x, -1, kind, 1, "a"), -1);
        }
        Bounds.emptyTape(x);
        for (int kind = 0; kind < 3; kind++) {
            Check.due("kind " + kind, Check.field(x, -1, kind, 1, "a" + kind), kind);
        }
        Check.stands(x, "select a0, a1, a2 where a0 = a1");
        Check.falls(x, "select a0, a1, a2 where a0 = @a2");
    }

    private static void types() {
        Check.sentence("and has a TYPE: 0 bool, 1 int, 2 long, 3 text, 4 group");
        QueryText x = new QueryText();
        int[] none = {-1, 5, Integer.MAX_VALUE, Integer.MIN_VALUE};
        for (int type : none) {
            Check.due("type " + type, Check.field(x, -1, 0, type, "a"), -1);
        }
        Bounds.emptyTape(x);
        for (int type = 0; type < 5; type++) {
            Check.due("type " + type, Check.field(x, -1, 0, type, "a" + type), type);
        }
        Check.stands(x, "select a4 where a0 = true and a1 = 1 and a2 = 1 and a3 = ''");
        Check.falls(x, "select a4 where @a4 is null");
        Check.due("in the group", Check.field(x, 4, 0, 0, "b"), 5);
    }

    private static void flatness() {
        Check.sentence("A field is FLAT if neither it nor a group around it is repeated");
        for (int outer = 0; outer < 3; outer++) {
            for (int inner = 0; inner < 3; inner++) {
                for (int own = 0; own < 3; own++) {
                    QueryText x = new QueryText();
                    Check.due("outer", Check.field(x, -1, outer, 4, "o"), 0);
                    Check.due("inner", Check.field(x, 0, inner, 4, "i"), 1);
                    Check.due("own", Check.field(x, 1, own, 1, "f"), 2);
                    Check.due("beside", Check.field(x, -1, 2, 4, "r"), 3);
                    if (outer == 2 || inner == 2 || own == 2) {
                        Bounds.refused(x, "select count where @o.i.f = 1");
                    } else {
                        Bounds.taken(x, "select count where o.i.f = 1");
                    }
                    Bounds.taken(x, "select o.i.f, o.i, o, r");
                }
            }
        }
    }

    private static void flatnessFarDown() {
        Check.sentence("A field is FLAT if neither it nor a group around it is repeated", "64 fields in one another");
        for (int repeated = -1; repeated < 64; repeated++) {
            QueryText x = new QueryText();
            StringBuilder path = new StringBuilder("g");
            for (int i = 0; i < 64; i++) {
                int kind = i == repeated ? 2 : i % 2;
                Check.due("field " + i, Check.field(x, i - 1, kind, i < 63 ? 4 : 3, "g"), i);
                path.append(i < 63 ? ".g" : "");
            }
            if (repeated < 0) {
                Bounds.taken(x, "select count group by " + path);
                Check.due("by(0)", x.by(0), 63);
            } else {
                Bounds.refused(x, "select count group by @" + path);
            }
            Check.falls(x, "select @" + path + ".g");
            Check.stands(x, "select " + path);
            Check.due("item(0, 1)", x.item(0, 1), 63);
        }
    }

    private static boolean feedBlanks(QueryText x) {
        return x.feed(0x20202020, 0x20202020, 0x20202020, 0x20202020, 0x20202020);
    }

    private static void tape() {
        Check.sentence("THE TAPE takes bytes, twenty a call, at most 2000");
        QueryText x = new QueryText();
        for (int round = 0; round < 2; round++) {
            for (int i = 0; i < 100; i++) {
                Check.due("feed " + i, feedBlanks(x) ? 1 : 0, 1);
            }
            Check.due("the 101st", x.feed(-1, -1, -1, -1, -1) ? 1 : 0, 0);
            Check.due("the 102nd", x.feed(-1, -1, -1, -1, -1) ? 1 : 0, 0);
            Check.due("2001 bytes", x.query(2001), -2);
            Check.due("2000 blanks alone", x.query(2000), 2000);
            Bounds.emptyTape(x);
        }
        for (int i = 0; i < 99; i++) {
            Check.due("feed " + i, feedBlanks(x) ? 1 : 0, 1);
        }
        Check.due("1981 bytes", x.query(1981), -2);
        Check.due("the 100th", x.feed(-1, -1, -1, -1, -1) ? 1 : 0, 1);
        Check.due("all of it", x.query(2000), 1980);
    }

    private static void fullTape() {
        Check.sentence("THE TAPE takes bytes, twenty a call, at most 2000");
        String front = "select id where id =";
        QueryText x = Bounds.taken(front + " ".repeat(1980 - front.length()) + "-9223372036854775808");
        Check.due("number(0)", x.number(0), Long.MIN_VALUE);
        Bounds.refused(front + " ".repeat(1980 - front.length()) + "@-9223372036854775809");
        Bounds.refused(front + " ".repeat(1999 - front.length()) + "@#");
        QueryText y = new QueryText();
        Check.feed(y, "a".repeat(2000));
        Check.due("the first byte of a full tape is a name", y.field(-1, 0, 0, 1), 0);
        Bounds.emptyTape(y);
    }

    private static void cutOff() {
        Check.sentence("a name or a query is cut off it");
        QueryText x = new QueryText();
        Check.feed(x, "idselect id");
        Check.due("the name", x.field(-1, 0, 1, 2), 0);
        Bounds.emptyTape(x);
        Check.feed(x, "select id where id = 1");
        Check.due("the query", x.query(9), -1);
        Bounds.row("counts", Bounds.counts(x), 1, 0, 0, 0, 0);
        Bounds.emptyTape(x);
    }

    private static void blanks() {
        Check.sentence("BLANKS are bytes 32 and 10");
        for (int b = 0; b < 256; b++) {
            char c = (char) b;
            if (b == 32 || b == 10) {
                Bounds.taken(c + "select" + c + "id" + c + "," + c + c + "id" + c);
            } else {
                Bounds.refused("select id " + (c == ',' ? c + " @" : "@" + c + " "));
                Bounds.refused(Bounds.isWordByte(b) ? "@select" + c + "id" : "select@" + c + "id");
            }
        }
    }

    private static void blanksBetween() {
        Check.sentence("between words and signs there may be some");
        QueryText x = Bounds.taken("select id,count(id)where id=1and(name<>'a'or not(paid>=true))group by id");
        Bounds.row("counts", Bounds.counts(x), 2, 1, 6, 3, 1);
        QueryText y = Bounds.taken(" \nselect\n\nid , count ( id ) where id  =  1 and\n(\nname <> 'a'"
                + "  or not\n( paid >= true ) )\ngroup\nby\nid\n");
        Bounds.row("counts", Bounds.counts(y), 2, 1, 6, 3, 1);
        Bounds.refused("@sel ect id");
        Bounds.refused("select id where id < @= 1");
        Bounds.refused("select id where id < @> 1");
        Bounds.refused("select id where id > @= 1");
        Bounds.refused("select id where id = @- 1");
        Bounds.refused("select id where id = 1 @2");
        Bounds.refused("select home @.town");
        Bounds.refused("select home.@ town");
    }

    private static void words() {
        Check.sentence("A WORD is a letter and letters, digits, _");
        for (int b = 0; b < 256; b++) {
            char c = (char) b;
            if (Bounds.isWordByte(b)) {
                Bounds.refused("select @id" + c);
                Bounds.refused("select id @where" + c + " id = 1");
            } else if (b == '.' || b == ',') {
                Bounds.refused("select id" + c + "@");
            } else if (b != 32 && b != 10) {
                Bounds.refused("select id@" + c);
            }
            QueryText x = new QueryText();
            if (Bounds.isLetter(b)) {
                Check.due("field", Check.field(x, -1, 0, 0, c + "z9_"), 0);
                Bounds.taken(x, "select " + c + "z9_");
            } else if (b != 32 && b != 10) {
                Bounds.refused(x, "select @" + c + "z9_");
                Bounds.refused(x, "select @" + c + "z9_.1");
            }
        }
    }

    private static void reserved() {
        Check.sentence("The words select, where, group, by, and, or, not, is, null, in, true, false, count, sum, "
                + "min, max are no names in a query");
        for (int i = 0; i < RESERVED.length; i++) {
            String word = RESERVED[i];
            QueryText x = new QueryText();
            Check.due("a field may have the name", Check.field(x, -1, 0, 1, word), 0);
            Check.due("g", Check.field(x, -1, 0, 4, "g"), 1);
            Check.due("in a group too", Check.field(x, 1, 0, 1, word), 2);
            Check.due("id", Check.field(x, -1, 0, 1, "id"), 3);
            Bounds.refused(x, i < 12 ? "select @" + word : i == 12 ? "select count@.id" : "select " + word + "@");
            Bounds.refused(x, "select g.@" + word);
            Bounds.refused(x, "select max(@" + word + ")");
            Bounds.refused(x, "select id where " + (i == 6 ? "not@" : "@" + word));
            Bounds.refused(x, "select id where id = @" + word + " = 1");
            Bounds.refused(x, "select id where id = g.@" + word);
            Bounds.refused(x, "select id group by @" + word);
        }
    }

    private static void nearlyReserved() {
        Check.sentence("The words [..] are no names in a query", "others are");
        for (String word : RESERVED) {
            String capital = word.substring(0, 1).toUpperCase() + word.substring(1);
            String[] near = {word.substring(0, word.length() - 1), word + "s", word + "_", word + "1", capital,
                word.toUpperCase(), word.substring(1) + word.charAt(0)};
            for (String name : near) {
                QueryText x = new QueryText();
                Check.due(name, Check.field(x, -1, 0, 1, name), 0);
                Bounds.taken(x, "select " + name + " where " + name + " = " + name + " group by " + name);
                Bounds.row("step 0", Bounds.step(x, 0), 4, 0, 0, 0, 0);
            }
        }
    }
}
