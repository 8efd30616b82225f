/** The sentences of CAN'T STAND, of what is met first, and of STEPS; one method a sentence. */
public final class BoundsOfPlacesTest {
    private static final String STEPS_63 = "select id where id is null" + " and id is null".repeat(31);
    private static final String LITERALS_64 = "select id where id in (" + "5,".repeat(63) + "6)";
    private static final String ITEMS_16 = "select " + "id,".repeat(15) + "id";
    private static final String MOST_TEXT = "select id where name = '" + "a".repeat(255);

    public static void main(String[] args) {
        wordsAndSigns();
        numbersAndTexts();
        strayBytes();
        endsTooEarly();
        endsOfAFullTape();
        pathsByTheirBeginning();
        allNamesAreWords();
        literalsOfAnotherType();
        itemsByTheirBeginning();
        inATextByItsPlace();
        inATextByThatOfTheBackslash();
        inATextTheSize();
        tooManyByTheirBeginning();
        stepTooMany();
        tooManyAsTheyBegin();
        pathsWhenRead();
        literalsWhenRead();
        stepsWhenAllHasBeenRead();
        itemsAtTheEnd();
        joinedBefore();
        fromTheLeft();
        literalsAsTheyCome();
        Check.end();
    }

    private static void wordsAndSigns() {
        Check.sentence("CAN'T STAND: told by the place (from 0) where a word, sign, [..] begins that should not be "
                + "there");
        Bounds.refused("@id");
        Bounds.refused(" \n @wherever");
        Bounds.refused("@, id");
        Bounds.refused("select  @from");
        Bounds.refused("select id   @from");
        Bounds.refused("select id where id is @nothing");
        Bounds.refused("select id where id @like 'a'");
        Bounds.refused("select id where id = 1   @having");
        Bounds.refused("select id where (id = 1   @where");
        Bounds.refused("select id group   @where");
        Bounds.refused("select id @<= 1");
        Bounds.refused("select id @<> 1");
        Bounds.refused("select @>= 1");
        Bounds.refused("select id where id <= @<= 1");
        Bounds.refused("select id @)");
        Bounds.refused("select id @(");
        Bounds.refused("select id @=");
    }

    private static void numbersAndTexts() {
        Check.sentence("where a [..] NUMBER or TEXT begins that should not be there");
        String[] literals = {"0", "12", "-12", "''", "'abc'", "'a\\'b'"};
        for (String literal : literals) {
            Bounds.refused("@" + literal);
            Bounds.refused("select @" + literal);
            Bounds.refused("select id @" + literal);
            Bounds.refused("select sum(@" + literal + ")");
            Bounds.refused("select id where @" + literal);
            Bounds.refused("select id where id @" + literal);
            Bounds.refused("select id where id is @" + literal);
            Bounds.refused("select id where id in @" + literal);
            Bounds.refused("select id where id = 1 @" + literal);
            Bounds.refused("select id where id in (1 @" + literal + ")");
            Bounds.refused("select id group by @" + literal);
            Bounds.refused("select id group by id @" + literal);
        }
    }

    private static void strayBytes() {
        Check.sentence("or that of a byte that is none of them");
        for (int b = 0; b < 256; b++) {
            char c = (char) b;
            if (b != 32 && b != 10 && !Bounds.isWordByte(b) && "',-=<>()".indexOf(c) < 0) {
                Bounds.refused("@" + c);
                Bounds.refused("select @" + c + "id");
                Bounds.refused("select id where @" + c + "id = 1");
                Bounds.refused("select id where id @" + c + "= 1");
                Bounds.refused("select id where id = @" + c + "1");
                Bounds.refused("select id where id = 1 @" + c);
                Bounds.refused("select id group by id @" + c);
            }
        }
        Bounds.refused("select id where id = @_1");
        Bounds.refused("select @_id");
    }

    private static void endsTooEarly() {
        Check.sentence("a text that ends too early by its size");
        String[] texts = {"", "select", "select id,", "select home.", "select sum", "select sum(", "select sum(id",
            "select id where", "select id where not", "select id where (", "select id where id",
            "select id where id is", "select id where id is not", "select id where id in", "select id where id in (",
            "select id where id in (1", "select id where id in (1,", "select id where id =", "select id where id = -",
            "select id where name = '", "select id where (id = 1", "select id where id = 1 and",
            "select id where id = 1 or", "select id group", "select id group by", "select id group by id,"};
        for (String text : texts) {
            Bounds.refused(text + "@");
            boolean blankMayFollow = !text.endsWith(".") && !text.endsWith("-") && !text.endsWith("'");
            if (blankMayFollow) {
                Bounds.refused(text + " @");
                Bounds.refused(text + "\n  \n@");
            }
        }
    }

    private static void endsOfAFullTape() {
        Check.sentence("a text that ends too early by its size", "of 2000 bytes");
        Bounds.refused(" ".repeat(2000) + "@");
        Bounds.refused(" ".repeat(1994) + "select@");
        Bounds.refused("select id where id =" + " ".repeat(1980) + "@");
        Bounds.refused("select id where name =" + " ".repeat(1977) + "'@");
        QueryText x = Check.withSchema();
        Check.feed(x, "select id where id = 1");
        Check.due("the text is the first n bytes", x.query(20), 20);
        Bounds.emptyTape(x);
    }

    private static void pathsByTheirBeginning() {
        Check.sentence("A PATH [..] that names nothing, or isn't as TYPES want it, or is there twice, by its "
                + "beginning");
        Bounds.refused("select id,  @nothing");
        Bounds.refused("select id,  @home.nothing");
        Bounds.refused("select id,  @home.last.nothing");
        Bounds.refused("select id where  @home.nothing = 1");
        Bounds.refused("select id where id =  @home.nothing");
        Bounds.refused("select id group by id,  @home.nothing");
        Bounds.refused("select id where  @orders.total = 1");
        Bounds.refused("select id where id =  @home.town");
        Bounds.refused("select id where id =  @orders.total");
        Bounds.refused("select sum(  @home.town)");
        Bounds.refused("select max(  @orders.part.no)");
        Bounds.refused("select id group by  @home.last");
        Bounds.refused("select id group by id,  @orders.total");
        Bounds.refused("select home.town group by home.town,  @home.town");
    }

    private static void allNamesAreWords() {
        Check.sentence("A PATH (all its names are words)");
        Bounds.refused("select @nothing.nothing.nothing");
        Bounds.refused("select nothing.@1");
        Bounds.refused("select nothing.nothing.@");
        Bounds.refused("select home.@where");
        Bounds.refused("select nothing.@where");
        Bounds.refused("select home.last.@select");
        Bounds.refused("select id where home.@is null");
        Bounds.refused("select id where home.since = home.@true");
        Bounds.refused("select id group by home.@by");
    }

    private static void literalsOfAnotherType() {
        Check.sentence("so is a literal of another TYPE");
        Bounds.refused("select id where id =  @'12'");
        Bounds.refused("select id where id =  @true");
        Bounds.refused("select id where name =  @12");
        Bounds.refused("select id where paid =  @-12");
        Bounds.refused("select id where id in (12,  @'12' , 12)");
    }

    private static void itemsByTheirBeginning() {
        Check.sentence("an ITEM that isn't behind by by its beginning");
        Bounds.refused("select count,  @home.town");
        Bounds.refused("select id,  @home.town , home.since group by id");
        Bounds.refused("select  @home.last.seen group by home.town");
    }

    private static void inATextByItsPlace() {
        Check.sentence("In a TEXT a byte that can't stand, or is the 256th, is told by its own place");
        Bounds.refused("select id where name = '@\u001f'");
        Bounds.refused("select id where name = '@\u007f'");
        Bounds.refused("select id where name = '\\x41\\'\\\\@\n'");
        Bounds.refused(MOST_TEXT + "@a'");
        Bounds.refused(MOST_TEXT + "@\u0000'");
        Bounds.refused(MOST_TEXT + "@\\'");
        Bounds.refused("select id where name = '" + "\\x61".repeat(254) + "a@a'");
        Bounds.refused("select id where name in ('', '" + "a".repeat(255) + "@aaaa");
        Bounds.taken(MOST_TEXT + "'");
        Bounds.taken("select id where name = '" + "\\x61".repeat(254) + "a'");
    }

    private static void inATextByThatOfTheBackslash() {
        Check.sentence("\\ and what is wrong behind it by that of \\");
        Bounds.refused("select id where name = '@\\a'");
        Bounds.refused("select id where name = '@\\ '");
        Bounds.refused("select id where name = '@\\\n'");
        Bounds.refused("select id where name = '\\\\@\\a'");
        Bounds.refused("select id where name = 'a@\\x'");
        Bounds.refused("select id where name = 'a@\\x1'");
        Bounds.refused("select id where name = 'a@\\x1\\x11'");
        Bounds.refused("select id where name = 'a@\\xfF'");
        Bounds.refused("select id where name = 'a@\\xFf'");
        Bounds.refused("select id where name = 'a@\\a");
        Bounds.refused("select id where name = 'a@\\xg");
        Bounds.refused("select id where name = 'a@\\x1g");
        Bounds.refused("select id where name = '" + "a".repeat(254) + "@\\a'");
    }

    private static void inATextTheSize() {
        Check.sentence("(ending too early: the size)");
        Bounds.refused("select id where name = '\\@");
        Bounds.refused("select id where name = '\\x@");
        Bounds.refused("select id where name = '\\x1@");
        Bounds.refused("select id where name = '\\x1f@");
        Bounds.refused("select id where name = '\\'@");
        Bounds.refused("select id where name = '\\\\@");
        Bounds.refused("select id where name = 'abc @");
        Bounds.refused(MOST_TEXT + "@");
        Bounds.refused("select id where name = '" + "a".repeat(254) + "\\x4@");
    }

    private static void tooManyByTheirBeginning() {
        Check.sentence("One item, path behind by, not, ( or literal too many by its beginning");
        Bounds.taken(ITEMS_16);
        Bounds.refused(ITEMS_16 + ",  @home.town");
        QueryText x = Bounds.withFields(9, 0, 1);
        Bounds.refused(x, "select f0 group by f0,f1,f2,f3,f4,f5,f6,f7 ,  @f8");
        Bounds.taken(x, "select f0 group by f0,f1,f2,f3,f4,f5,f6,f7");
        Bounds.refused("select id where " + "not ".repeat(32) + "  @not id = 1");
        Bounds.refused("select id where " + "( ".repeat(32) + "  @( id = 1");
        Bounds.taken(LITERALS_64);
        Bounds.refused(LITERALS_64 + " or id =  @-12");
        Bounds.refused(LITERALS_64 + " or name in (  @'abc' )");
    }

    private static void stepTooMany() {
        Check.sentence("one STEP too many by the place of its not, and, or, or of its test's PATH");
        Bounds.taken(STEPS_63);
        Bounds.refused(STEPS_63 + "  @and  id is null");
        Bounds.refused(STEPS_63 + "  @or  id is null");
        Bounds.refused(STEPS_63 + "  or  @not  id is null");
        Bounds.refused(STEPS_63 + "  and  @not  (id is null)");
        Bounds.refused(STEPS_63 + " or (id is null and  @home.since  is null)");
        Bounds.refused(STEPS_63 + " or (id is null and  @home.since  is  not  null)");
        Bounds.refused(STEPS_63 + " or (id is null and  @home.since  in  ( 1 ))");
        Bounds.refused(STEPS_63 + " or (id is null and  @home.since  =  1)");
        Bounds.refused(STEPS_63 + " or (id is null and  @home.since  =  id)");
        String someOrs = "select id where id is null" + " or id is null".repeat(30);
        Bounds.taken(someOrs + " or id is null");
        Bounds.refused(someOrs + " or id is null @or id is null");
        Bounds.refused(someOrs + " @or id is null and id is null");
    }

    private static void tooManyAsTheyBegin() {
        Check.sentence("What is met first, reading on, counts: an item, path, not, ( too many as it begins");
        Bounds.refused(ITEMS_16 + ", @nothing");
        Bounds.refused(ITEMS_16 + ", @sum(name)");
        Bounds.refused(ITEMS_16 + ", @home.1");
        Bounds.refused(ITEMS_16 + ", @count(");
        Bounds.refused(ITEMS_16 + " @#");
        QueryText x = Bounds.withFields(9, 0, 1);
        String eight = "select count group by f0,f1,f2,f3,f4,f5,f6,f7";
        Bounds.refused(x, eight + ", @nothing");
        Bounds.refused(x, eight + ", @f8.1");
        Bounds.refused(x, eight + ", @f0");
        Bounds.refused(x, "select f8 group by f0,f1,f2,f3,f4,f5,f6,f7, @f8");
        Bounds.refused("select id where " + "not ".repeat(32) + "@not #");
        Bounds.refused("select id where " + "(".repeat(32) + "@(nothing");
        Bounds.refused("select id where " + "(".repeat(32) + "id = @nothing or (id = 1)");
    }

    private static void pathsWhenRead() {
        Check.sentence("What is met first, reading on, counts: [..] a PATH [..] when it has been read");
        Bounds.refused("select @nothing #");
        Bounds.refused("select @nothing#");
        Bounds.refused("select nothing.@#");
        Bounds.refused("select sum(@name #");
        Bounds.refused("select sum(@name");
        Bounds.refused("select id where @tags #");
        Bounds.refused("select id where @nothing");
        Bounds.refused("select id where id = @name #");
        Bounds.refused("select id where id = name.@#");
        Bounds.refused("select id group by id, @id #");
        Bounds.refused("select id group by id, id.@#");
        Bounds.refused("select id, @nothing where nothing group by nothing");
    }

    private static void literalsWhenRead() {
        Check.sentence("What is met first, reading on, counts: [..] or literal (also one too many) when it has been "
                + "read");
        Bounds.refused("select id where id = @'abc' #");
        Bounds.refused("select id where id = 'a@\\q'");
        Bounds.refused("select id where id = 'abc@");
        Bounds.refused("select id where id = 'a@\u0000'");
        Bounds.refused("select id where id = '" + "a".repeat(255) + "@a'");
        Bounds.refused(LITERALS_64 + " or name = @'abc' #");
        Bounds.refused(LITERALS_64 + " or name = 'a@\\q'");
        Bounds.refused(LITERALS_64 + " or name = 'abc@");
        Bounds.refused(LITERALS_64 + " or name = 'a@\u0000'");
        Bounds.refused(LITERALS_64 + " or name = '" + "a".repeat(255) + "@a'");
        Bounds.refused(LITERALS_64 + " or id = @nothing");
        Bounds.refused(LITERALS_64 + " or id =@");
        Bounds.refused(LITERALS_64 + " or id in (@)");
    }

    private static void stepsWhenAllHasBeenRead() {
        Check.sentence("What is met first, reading on, counts: [..] a STEP when all that it joins or asks has been");
        Bounds.refused(STEPS_63 + " or id@");
        Bounds.refused(STEPS_63 + " or @nothing");
        Bounds.refused(STEPS_63 + " @or id is null #");
        Bounds.refused(STEPS_63 + " or (id is null@");
        Bounds.refused(STEPS_63 + " or (id is null @#");
        Bounds.refused(STEPS_63 + " @or (id is null) #");
        Bounds.refused(STEPS_63 + " or not@");
        Bounds.refused(STEPS_63 + " or not (id is null @#");
        Bounds.refused(STEPS_63 + " or @not (id is null) #");
        Bounds.refused(STEPS_63 + " or id is null and (@");
        Bounds.refused(STEPS_63 + " or id is null and id is@");
        Bounds.refused(STEPS_63 + " or id is null and id = @'a'");
        Bounds.refused(STEPS_63 + " or id is null and id in (1, @nothing");
        Bounds.refused(STEPS_63 + " or id is null and id in (1@");
        Bounds.refused(STEPS_63 + " or id is null and id in (1 @#");
        Bounds.refused(STEPS_63 + " or id is null and id is not @#");
        Bounds.refused(STEPS_63 + " or id is null and id = age.@#");
        Bounds.refused(STEPS_63 + " or id is null and @id in (1) #");
        Bounds.refused(STEPS_63 + " or id is null and @id = age #");
        Bounds.refused("select count, id where not " + STEPS_63.substring(16) + " or @id is null group by #");
    }

    private static void itemsAtTheEnd() {
        Check.sentence("What is met first, reading on, counts: [..] ITEMS that aren't behind by at the end");
        Bounds.refused("select id, count where @nothing = 1");
        Bounds.refused("select id, count @#");
        Bounds.refused("select id, name group by age @#");
        Bounds.refused("select id, name group by age,@");
        Bounds.refused("select id, name group by age, @age");
        Bounds.refused("select id, name group by age, @home");
        Bounds.refused("select @id, name group by age");
        Bounds.refused("select id, @name, age group by id");
        Bounds.refused("select " + "id,".repeat(15) + "@name group by id");
    }

    private static void kinds(String condition, int... due) {
        QueryText x = Bounds.taken("select id where " + condition);
        Check.due("count(2)", x.count(2), due.length);
        for (int i = 0; i < due.length; i++) {
            Check.due("step(" + i + ", 0) of " + condition, x.step(i, 0), due[i]);
        }
    }

    private static void joinedBefore() {
        Check.sentence("STEPS: the condition, what is joined before what joins it");
        kinds("id is null", 0);
        kinds("not id is null", 0, 5);
        kinds("id is null and id is not null", 0, 1, 6);
        kinds("id is null or id in (1) and id = 1", 0, 2, 3, 6, 7);
        kinds("id is null and id in (1) or id = id", 0, 2, 6, 4, 7);
        kinds("not (id is null or id in (1))", 0, 2, 7, 5);
        kinds("not id is null or id in (1)", 0, 5, 2, 7);
        kinds("not id is null and id in (1)", 0, 5, 2, 6);
        kinds("id is null and not id in (1) or id = 1", 0, 2, 5, 6, 3, 7);
        kinds("(id is null or id in (1)) and not id = 1", 0, 2, 7, 3, 5, 6);
        kinds("((id is null))", 0);
    }

    private static void fromTheLeft() {
        Check.sentence("and joins two by two, from the left; or likewise");
        kinds("id is null and id in (1) and id = 1", 0, 2, 6, 3, 6);
        kinds("id is null or id in (1) or id = 1", 0, 2, 7, 3, 7);
        kinds("id is null or id in (1) and id = 1 or id = id", 0, 2, 3, 6, 7, 4, 7);
        kinds("id is null and (id in (1) and id = 1)", 0, 2, 3, 6, 6);
        kinds("id is null or (id in (1) or id = 1)", 0, 2, 3, 7, 7);
        kinds("id is null and not id in (1) and id = 1", 0, 2, 5, 6, 3, 6);
    }

    private static void literalsAsTheyCome() {
        Check.sentence("Literals are numbered as they come.");
        QueryText x = Bounds.taken("select id where id in (7, 8) or (name = 'c' and not paid = true) or id > 9"
                + " or name in ('d', 'e')");
        Bounds.row("step 0", Bounds.step(x, 0), 2, 0, -1, 0, 2);
        Bounds.row("step 1", Bounds.step(x, 1), 3, 1, 0, 2, 1);
        Bounds.row("step 2", Bounds.step(x, 2), 3, 11, 0, 3, 1);
        Bounds.row("step 6", Bounds.step(x, 6), 3, 0, 4, 4, 1);
        Bounds.row("step 8", Bounds.step(x, 8), 2, 1, -1, 5, 2);
        int[] types = {x.literal(0), x.literal(1), x.literal(2), x.literal(3), x.literal(4), x.literal(5)};
        Bounds.row("types", types, 2, 2, 3, 0, 2, 3);
        Bounds.row("text 2", Bounds.text(x, 2), 'c');
        Bounds.row("text 6", Bounds.text(x, 6), 'e');
        Check.due("number(1)", x.number(1), 8);
        Check.due("number(4)", x.number(4), 9);
    }
}
