/** Every sentence of the section "Terms" that names a boundary, on both of its sides. */
final class TermsBoundariesTest {
    private static final int MOST_OPEN = 40;

    public static void main(String[] args) {
        Checks.test("Terms: bytes come onto a tape (at most 65536)", TermsBoundariesTest::tapeAtMost);
        Checks.test("Terms: the tape is empty then", TermsBoundariesTest::tapeEmptyThen);
        Checks.test("Terms: blanks (9, 10, 13, 32)", TermsBoundariesTest::blanks);
        Checks.test("Terms: a comment to the next byte 10 or the tape's end", TermsBoundariesTest::comments);
        Checks.test("Terms: there need be none (12ab is 12 and ab, 'a'b is 'a' and b)", TermsBoundariesTest::needBeNone);
        Checks.test("Terms: tokens, each as long as it can be", TermsBoundariesTest::asLongAsCanBe);
        Checks.test("Terms: a word's letters, digits, _", TermsBoundariesTest::wordCharacters);
        Checks.test("Terms: a word's at most 30", TermsBoundariesTest::wordAtMost);
        Checks.test("Terms: small and great letters being the same", TermsBoundariesTest::letterSizes);
        Checks.test("Terms: a number's 1 to 18 digits", TermsBoundariesTest::numberDigits);
        Checks.test("Terms: a string's characters 32 .. 126", TermsBoundariesTest::stringCharacters);
        Checks.test("Terms: a string's at most 200", TermsBoundariesTest::stringAtMost);
        Checks.test("Terms: '' standing for one ' (and counting as one)", TermsBoundariesTest::stringQuotes);
        Checks.test("Terms: what begins no token can't stand", TermsBoundariesTest::beginsNoToken);
        Checks.test("Terms: a token that is longer can't stand", TermsBoundariesTest::longerToken);
        Checks.test("Terms: a string without its end can't stand", TermsBoundariesTest::stringWithoutEnd);
        Checks.test("Terms: keywords (no names)", TermsBoundariesTest::keywords);
        Checks.test("Terms: then perhaps ;, then the end", TermsBoundariesTest::semicolon);
        Checks.test("Terms: {x} any number of x, [x] perhaps", TermsBoundariesTest::howMany);
        Checks.test("Terms: behind DEFAULT also - k", TermsBoundariesTest::defaults);
        Checks.test("Terms: at most 40 open: (, of every sort, until its )", TermsBoundariesTest::openBrackets);
        Checks.test("Terms: at most 40 open: b's NOT until what it stands before has ended", TermsBoundariesTest::openNots);
        Checks.test("Terms: at most 40 open: u's - until what it stands before has ended", TermsBoundariesTest::openMinuses);
        Checks.test("Terms: at most 40 open: CASE until END", TermsBoundariesTest::openCases);
        Checks.test("Terms: at most 40 open: all of these together", TermsBoundariesTest::openTogether);
        Checks.test("Terms: numbers without zeros before them (but for 0)", TermsBoundariesTest::zeros);
        Checks.test("Terms: strings as they are", TermsBoundariesTest::stringsStay);
        Checks.test("Terms: BEGIN alone, REFERENCES n without ON DELETE", TermsBoundariesTest::leftOut);
        Checks.finish("TermsBoundariesTest");
    }

    // ---- what the tests share ----

    /** A statement, or a text with a ^ before the token at fault. */
    private static void reads(String marked) {
        readIs(Checks.unmarked(marked), Checks.dueOf(marked));
    }

    private static void readIs(String text, int due) {
        QueryReader x = new QueryReader();
        Checks.same("reading [" + text + "]", Checks.read(x, text), due);
        Checks.holds("a plain form of [" + text + "]", x.length() > 0 == (due == 0));
    }

    private static void plain(String text, String form) {
        QueryReader x = new QueryReader();
        Checks.same("reading [" + text + "]", Checks.read(x, text), 0);
        Checks.same("plain form of [" + text + "]", Checks.plain(x), form);
    }

    /** For a form with more characters than an object has calls. */
    private static void longPlain(String text, String form) {
        QueryReader x = new QueryReader();
        Checks.same("reading " + text, Checks.read(x, text), 0);
        Checks.same("length of the plain form of " + text, x.length(), form.length());
        Checks.same("mark of " + text, x.mark(), Checks.folded(form));
    }

    private static boolean isLetter(int c) {
        return c >= 'a' && c <= 'z' || c >= 'A' && c <= 'Z' || c == '_';
    }

    private static boolean isDigit(int c) {
        return c >= '0' && c <= '9';
    }

    private static boolean isBlank(int c) {
        return c == 9 || c == 10 || c == 13 || c == 32;
    }

    // ---- the tape ----

    /** 5040 sources more, of 2 characters each, are 13 each in the plain form: only so can 512 calls fill the tape. */
    private static void tapeAtMost() {
        QueryReader x = new QueryReader();
        Checks.feedWithBlanks(x, "select ab from t" + ",t".repeat(5040));
        x.read();
        Checks.holds("65536 have room", x.again());
        Checks.fails("twenty more", IllegalStateException.class, () -> x.feed(0, 0, 0, 0, 0));
        Checks.passes("65536 are there", () -> x.end(65536));
        Checks.same("65536 are read", x.read(), 0);
        QueryReader y = new QueryReader();
        Checks.feedWithBlanks(y, "select abc from t" + ",t".repeat(5040));
        y.read();
        Checks.holds("65537 have no room", !y.again());
        Checks.fails("none is there", IllegalArgumentException.class, () -> y.end(1));
    }

    private static void tapeEmptyThen() {
        for (String text : new String[] {"commit", "", " ", "$", "commit;;", "select 'a", "select (((a)))"}) {
            QueryReader x = new QueryReader();
            Checks.feed(x, text);
            Checks.passes("all of [" + text + "] is there", () -> x.end(text.length()));
            x.read();
            Checks.fails("none is there behind [" + text + "]", IllegalArgumentException.class, () -> x.end(1));
            Checks.passes("behind [" + text + "], end(0)", () -> x.end(0));
            Checks.same("the next text is read alone", Checks.read(x, "rollback"), 0);
            Checks.same("its kind", x.kind(), 11);
            Checks.same("then the empty text", x.read(), 1);
        }
    }

    // ---- tokens ----

    private static void blanks() {
        for (int c = 0; c < 256; c++) {
            boolean between = isBlank(c);
            readIs((char) c + "commit", between ? 0 : 1);
            readIs("commit;" + (char) c, between ? 0 : 8);
            boolean ofWord = isLetter(c) || isDigit(c);
            readIs("drop" + (char) c + "table" + (char) c + "t", between ? 0 : ofWord ? 1 : 5);
        }
        plain("\t\n\r select \r\n\t 1 \t\r\n", "SELECT 1");
    }

    private static void comments() {
        reads("commit-- x");
        reads("commit--");
        reads("commit^-");
        reads("commit^- -");
        reads("commit ^-");
        reads("--\ncommit");
        reads("--^");
        reads("-- commit^");
        reads("-- commit\n^");
        reads("commit -- $\n;");
        reads("commit -- $\n^$");
        reads("commit ---- -- $");
        reads("commit --\n--\n\n-- $");
        reads("select --'\n 1");
        reads("^save--\npoint s");
        reads("select a <--\n^= b");
        plain("select 1--1", "SELECT 1");
        plain("select 1-1", "SELECT ( 1 - 1 )");
        plain("select 1- -1", "SELECT ( 1 - ( - 1 ) )");
        plain("select 1---1\n-1", "SELECT ( 1 - 1 )");
        plain("select '--'--'", "SELECT '--'");
        for (int c = 0; c < 256; c++) {
            readIs("commit--" + (char) c + "$", c == 10 ? 10 : 0);
        }
        QueryReader x = new QueryReader();
        Checks.feedWithBlanks(x, "commit--\n$");
        x.end(9);
        Checks.same("a comment that ends where the tape does", x.read(), 0);
        Checks.feedWithBlanks(x, "commit--");
        x.end(7);
        Checks.same("a comment's - that was taken off the tape", x.read(), 7);
    }

    private static void needBeNone() {
        reads("select 12^ab");
        plain("select 12as b", "SELECT 12 AS b");
        plain("select 12 as b", "SELECT 12 AS b");
        reads("select 'a'^b");
        plain("select 'a'as b", "SELECT 'a' AS b");
        reads("select 12^'a'");
        reads("select 'a'^12");
        reads("select a^'b'");
        reads("select ab12");
        reads("select ab ^12");
        reads("^selecta");
        reads("^select1");
        plain("select(a)from t", "SELECT a FROM t");
        plain("select'a'from t limit 1offset 2;", "SELECT 'a' FROM t LIMIT 1 OFFSET 2");
        plain("select*from t where a<1or b>2and 3in(4)", "SELECT * FROM t WHERE ( ( a < 1 ) OR ( ( b > 2 ) AND ( 3 IN ( 4 ) ) ) )");
        plain("commit;--", "COMMIT");
    }

    private static void asLongAsCanBe() {
        plain("select a<=b", "SELECT ( a <= b )");
        reads("select a< ^=b");
        plain("select a>=b", "SELECT ( a >= b )");
        reads("select a> ^=b");
        plain("select a<>b", "SELECT ( a <> b )");
        reads("select a< ^>b");
        reads("select a>^<b");
        reads("select a=^<b");
        reads("select a<=^>b");
        plain("select a||b", "SELECT ( a || b )");
        reads("select a^| |b");
        reads("select a||^|b");
        plain("select 'a''b'", "SELECT 'a''b'");
        reads("select 'a' ^'b'");
        plain("commit prepared 1", "COMMIT PREPARED 1");
        reads("commit ^prepare d 1");
    }

    private static void wordCharacters() {
        for (int c = 0; c < 256; c++) {
            boolean mayBegin = isLetter(c);
            boolean mayFollow = isLetter(c) || isDigit(c);
            String name = "" + (char) c;
            readIs("savepoint " + name, mayBegin ? 0 : isBlank(c) ? 12 : 11);
            readIs("savepoint z" + name, mayFollow || isBlank(c) || c == ';' ? 0 : 12);
            readIs("savepoint " + name + "z", mayBegin || isBlank(c) ? 0 : 11);
        }
    }

    private static void wordAtMost() {
        String thirty = "a123456789_bcdefghijklmnopqrst";
        plain("savepoint " + thirty, "SAVEPOINT " + thirty);
        reads("savepoint ^" + thirty + "u");
        for (String c : new String[] {"a", "Z", "_"}) {
            reads("savepoint " + c);
            reads("savepoint " + c.repeat(29));
            reads("savepoint " + c.repeat(30));
            reads("savepoint ^" + c.repeat(31));
            reads("savepoint ^" + c.repeat(60));
            reads("savepoint ^" + c.repeat(1000));
            reads("savepoint " + c + "0".repeat(29));
            reads("savepoint ^" + c + "0".repeat(30));
        }
        plain("savepoint " + "A".repeat(30) + ";", "SAVEPOINT " + "a".repeat(30));
        reads("savepoint " + "a".repeat(30) + "--" + "a");
        reads("savepoint " + "a".repeat(30) + "^$");
        reads("savepoint " + "select".repeat(5));
        reads("savepoint ^" + "select".repeat(5) + "s");
    }

    private static void letterSizes() {
        plain("COMMIT", "COMMIT");
        plain("commit", "COMMIT");
        plain("cOmMiT", "COMMIT");
        plain("SAVEPOINT AbCxYz_09", "SAVEPOINT abcxyz_09");
        plain("savepoint AZ", "SAVEPOINT az");
        QueryReader x = new QueryReader();
        Checks.read(x, "select az, AZ, Az, aZ");
        Checks.same("one name", x.names(), 1);
    }

    private static void numberDigits() {
        String eighteen = "123456789012345678";
        plain("prepare 1", "PREPARE 1");
        plain("prepare " + eighteen, "PREPARE " + eighteen);
        reads("prepare ^" + eighteen + "9");
        reads("prepare ^" + eighteen + eighteen);
        reads("prepare ^" + "9".repeat(1000));
        plain("prepare " + "9".repeat(18), "PREPARE " + "9".repeat(18));
        plain("prepare " + "9".repeat(17), "PREPARE " + "9".repeat(17));
        plain("prepare " + "0".repeat(18), "PREPARE 0");
        reads("prepare ^" + "0".repeat(19));
        reads("prepare ^" + "0".repeat(18) + "1");
        reads("prepare^");
        plain("select " + eighteen + "as a", "SELECT " + eighteen + " AS a");
        reads("select ^" + eighteen + "9as a");
        plain("select a limit " + eighteen + " offset " + eighteen, "SELECT a LIMIT " + eighteen + " OFFSET " + eighteen);
        reads("select a limit ^" + eighteen + "0 offset 1");
        reads("select a limit 1 offset ^" + eighteen + "0");
        plain("create table t (a int default -" + eighteen + ")", "CREATE TABLE t ( a INT DEFAULT - " + eighteen + " )");
        reads("create table t (a int default -^" + eighteen + "0)");
        for (int c = 0; c < 256; c++) {
            readIs("prepare 1" + (char) c, isDigit(c) || isBlank(c) || c == ';' ? 0 : 10);
        }
    }

    private static void stringCharacters() {
        for (int c = 0; c < 256; c++) {
            boolean stands = c >= 32 && c <= 126 && c != '\'';
            readIs("select '" + (char) c + "'", stands ? 0 : 8);
            readIs("select 'a" + (char) c + "b'", c == '\'' ? 11 : stands ? 0 : 8);
        }
        plain("select ' ~'", "SELECT ' ~'");
    }

    private static void stringAtMost() {
        reads("select ''");
        reads("select 'a'");
        reads("select '" + "x".repeat(199) + "'");
        plain("select '" + "x".repeat(200) + "'", "SELECT '" + "x".repeat(200) + "'");
        reads("select ^'" + "x".repeat(201) + "'");
        reads("select ^'" + "x".repeat(1000) + "'");
        reads("select '" + " ".repeat(200) + "'");
        reads("select ^'" + " ".repeat(201) + "'");
        reads("select '" + "x".repeat(200) + "'as b");
        reads("select ^'" + "x".repeat(201) + "'as b");
        reads("select '" + "x".repeat(200) + "', '" + "y".repeat(200) + "'");
        reads("select '" + "x".repeat(200) + "', ^'" + "y".repeat(201) + "'");
        reads("create table t (a text default '" + "x".repeat(200) + "')");
        reads("create table t (a text default ^'" + "x".repeat(201) + "')");
    }

    private static void stringQuotes() {
        plain("select ''''", "SELECT ''''");
        plain("select ''''''", "SELECT ''''''");
        plain("select 'it''s'", "SELECT 'it''s'");
        reads("select '" + "''".repeat(199) + "'");
        plain("select '" + "''".repeat(200) + "'", "SELECT '" + "''".repeat(200) + "'");
        reads("select ^'" + "''".repeat(201) + "'");
        reads("select '" + "x".repeat(199) + "'''");
        reads("select ^'" + "x".repeat(200) + "'''");
        reads("select '''" + "x".repeat(199) + "'");
        reads("select ^'''" + "x".repeat(200) + "'");
        reads("select '" + "x''".repeat(100) + "'");
        reads("select ^'" + "x''".repeat(100) + "x'");
    }

    private static void beginsNoToken() {
        for (int c = 0; c < 256; c++) {
            String marks = "(),.;+-*/%=<>";
            boolean begins = isLetter(c) || isDigit(c) || c == '\'' || marks.indexOf(c) >= 0;
            int due = isLetter(c) || isDigit(c) || c == '*' ? 0 : isBlank(c) || c == '(' || c == '-' ? 9 : 8;
            readIs("select " + (char) c, due);
            if (!begins && !isBlank(c)) {
                readIs("" + (char) c, 1);
                readIs("commit" + (char) c, 7);
                readIs("commit " + (char) c + ";", 8);
                readIs("select a" + (char) c + "b", 9);
                readIs("select a, " + (char) c, 11);
            }
        }
        reads("select a || b");
        reads("select a ^| b");
        reads("select a ^!= b");
        reads("commit -- $ | !");
        reads("select '$ | !'");
    }

    private static void longerToken() {
        reads("savepoint ^" + "a".repeat(31));
        reads("commit prepared ^" + "1".repeat(19));
        reads("select ^'" + "a".repeat(201) + "'");
        reads("commit ^" + "a".repeat(31));
        reads("^" + "commit".repeat(6));
        reads("select a as ^" + "b".repeat(31) + " from t");
        reads("select a.^" + "b".repeat(31));
        reads("select a from t ^b " + "c".repeat(31));
        reads("select a -- " + "b".repeat(31) + "1".repeat(19));
    }

    private static void stringWithoutEnd() {
        reads("select ^'");
        reads("select ''");
        reads("select ^'''");
        reads("select ''''");
        reads("select ^'a");
        reads("select 'a'");
        reads("select ^'a''");
        reads("select ^'a\n'");
        reads("select ^'a -- b");
        reads("select 'a', ^'b");
        reads("select ^'" + "a".repeat(200));
        reads("select '" + "a".repeat(200) + "'");
        QueryReader x = new QueryReader();
        Checks.feedWithBlanks(x, "select 'a'");
        x.end(9);
        Checks.same("its end was taken off the tape", x.read(), 8);
        Checks.feedWithBlanks(x, "select 'a''");
        x.end(10);
        Checks.same("a second ' was taken off the tape", x.read(), 0);
    }

    private static void keywords() {
        String all = "ABS ALL AND AS ASC AVG BEGIN BETWEEN BY CASCADE CASE CAST CHECK COALESCE COMMIT COMMITTED COUNT CREATE"
            + " CROSS DEFAULT DELETE DESC DISTINCT DROP ELSE END EXCLUSIVE EXISTS FROM GROUP HAVING IN INDEX INNER INSERT INT"
            + " INTO IS JOIN KEY LEFT LENGTH LIKE LIMIT LOCK LOWER MAX MIN MODE NOT NULL NULLIF OFFSET ON OR ORDER OUTER"
            + " PREPARE PREPARED PRIMARY READ REFERENCES RESTRICT ROLLBACK SAVEPOINT SELECT SERIALIZABLE SET SHARE SUBSTR SUM"
            + " TABLE TEXT THEN TO UNCOMMITTED UNIQUE UPDATE UPPER VALUES WHEN WHERE";
        String spaced = " " + all + " ";
        for (String keyword : all.split(" ")) {
            reads("drop table ^" + keyword);
            reads("drop table ^" + keyword.toLowerCase());
            reads("drop table ^" + keyword.charAt(0) + keyword.substring(1).toLowerCase());
            reads("drop table _" + keyword);
            reads("drop table " + keyword + "_");
            reads("drop table " + keyword + "0");
            String shorter = keyword.substring(0, keyword.length() - 1);
            reads("drop table " + (spaced.contains(" " + shorter + " ") ? "^" : "") + shorter);
            String longer = keyword + "S";
            reads("drop table " + (spaced.contains(" " + longer + " ") ? "^" : "") + longer);
        }
        for (String name : "date row true false union i a z aa zz int4 transaction".split(" ")) {
            reads("drop table " + name);
        }
    }

    // ---- the language ----

    private static void semicolon() {
        reads("commit");
        reads("commit;");
        reads("commit ; ");
        reads("commit;^;");
        reads("commit;^commit");
        reads("^;");
        reads("^;commit");
        plain("select ';';", "SELECT ';'");
        plain("select 1 ; -- ;", "SELECT 1");
    }

    private static void howMany() {
        reads("create table t (^)");
        reads("create table t (a int)");
        reads("create table t (a int, b int, c int)");
        reads("create table t (a int,^)");
        reads("create table t (unique (^))");
        reads("create table t (unique (a))");
        reads("create table t (unique (a, b))");
        reads("create index i on t (^)");
        reads("create index i on t (a)");
        reads("insert into t values (^)");
        reads("insert into t values (1)");
        reads("insert into t values (1), (2, 3)");
        reads("insert into t values (1),^");
        reads("select ^from t");
        reads("select a in (^)");
        reads("select a in (1)");
        reads("select case ^end");
        reads("select case when a then b end");
        reads("select case when a then b when c then d end");
        reads("select abs(^)");
        reads("select abs(a)");
        reads("select abs(a^, b)");
        reads("select substr(a^)");
        reads("select substr(a, b)");
        reads("select substr(a, b, c)");
        reads("select substr(a, b, c^, d)");
        reads("select coalesce(^)");
        reads("select coalesce(a)");
        reads("select nullif(a^)");
        reads("select nullif(a, b)");
        reads("select nullif(a, b^, c)");
        reads("select distinct a");
        reads("select distinct ^distinct a");
        reads("select a limit 1");
        reads("select a limit 1 offset 2");
        reads("select a ^offset 2");
        longPlain("select a" + ", a".repeat(2000), "SELECT a" + " , a".repeat(2000));
        longPlain("select a" + "+a".repeat(2000), "SELECT ( a" + " + a".repeat(2000) + " )");
        longPlain("select a" + " or a".repeat(1500), "SELECT ( a" + " OR a".repeat(1500) + " )");
    }

    private static void defaults() {
        plain("create table t (a int default 1)", "CREATE TABLE t ( a INT DEFAULT 1 )");
        plain("create table t (a int default -1)", "CREATE TABLE t ( a INT DEFAULT - 1 )");
        reads("create table t (a int default - ^- 1)");
        reads("create table t (a int default -^)");
        reads("create table t (a int default - ^null)");
        reads("create table t (a int default - ^'a')");
        reads("create table t (a int default ^(-1))");
        plain("create table t (a int default null)", "CREATE TABLE t ( a INT DEFAULT NULL )");
        plain("select -1", "SELECT ( - 1 )");
        QueryReader x = new QueryReader();
        Checks.read(x, "create table t (a int default -1)");
        Checks.same("it is not open", x.depth(), 1);
    }

    // ---- what is open ----

    /** Reads a statement in which just so many are open: with 40 it is one, with 41 the last that opens is at fault. */
    private static void opens(String marked, int depth) {
        String text = Checks.unmarked(marked);
        QueryReader x = new QueryReader();
        Checks.same("reading " + text, Checks.read(x, text), Checks.dueOf(marked));
        Checks.same("depth of " + text, x.depth(), depth);
        Checks.holds("a plain form of " + text, x.length() > 0 == text.equals(marked));
    }

    /** What opens one each time; a ^ stands before the token that does. */
    private static void nested(String opener, String inner, String closer) {
        String open = opener.replace("^", "");
        opens("select " + open.repeat(39) + inner + closer.repeat(39), 39);
        opens("select " + open.repeat(40) + inner + closer.repeat(40), MOST_OPEN);
        opens("select " + open.repeat(40) + opener + inner + closer.repeat(41), MOST_OPEN);
        opens("select " + open.repeat(40) + opener, MOST_OPEN);
        opens("select " + open.repeat(40) + opener + open.repeat(30), MOST_OPEN);
    }

    private static void openBrackets() {
        nested("^(", "1", ")");
        nested("abs^(", "1", ")");
        nested("length^(", "1", ")");
        nested("upper^(", "1", ")");
        nested("lower^(", "1", ")");
        nested("substr^(", "1", ",1)");
        nested("substr^(1,1,", "1", ")");
        nested("coalesce^(1,", "1", ")");
        nested("nullif^(", "1", ",1)");
        nested("cast^(", "1", " as int)");
        nested("count^(", "1", ")");
        nested("sum^(distinct ", "1", ")");
        nested("min^(", "1", ")");
        nested("max^(", "1", ")");
        nested("avg^(", "1", ")");
        nested("exists ^(select ", "1", ")");
        nested("a in ^(", "1", ")");
        nested("a not in ^(1,", "1", ")");
        nested("a in ^(select ", "1", ")");
        opens("select " + "(".repeat(39) + "count(*)" + ")".repeat(39), MOST_OPEN);
        opens("select " + "(".repeat(40) + "count^(*)" + ")".repeat(40), MOST_OPEN);
        opens("insert into t (a) values (" + "(".repeat(39) + "1" + ")".repeat(40), MOST_OPEN);
        opens("insert into t (a) values (" + "(".repeat(39) + "^(1" + ")".repeat(41), MOST_OPEN);
        opens("insert into t (a) select " + "(".repeat(40) + "1" + ")".repeat(40), MOST_OPEN);
        opens("create table t (a int check (" + "(".repeat(38) + "1" + ")".repeat(40), MOST_OPEN);
        opens("create table t (a int check (" + "(".repeat(38) + "^(1" + ")".repeat(41), MOST_OPEN);
        opens("create table t (check (" + "(".repeat(38) + "1" + ")".repeat(40), MOST_OPEN);
        opens("create table t (check (" + "(".repeat(38) + "^(1" + ")".repeat(41), MOST_OPEN);
        opens("create table t (primary key (a), unique (b))", 2);
        opens("create index i on t (a)", 1);
        String forty = "(".repeat(40) + "1" + ")".repeat(40);
        opens("select " + forty + "," + forty + " + " + forty, MOST_OPEN);
        opens("select (" + forty.substring(1, 80) + "+ (1)" + ")", MOST_OPEN);
        opens("select " + "(1), ".repeat(100) + "(1)", 1);
    }

    private static void openNots() {
        nested("^not ", "a", "");
        String forty = "not ".repeat(40);
        opens("select " + forty + "a and " + forty + "b or " + forty + "c", MOST_OPEN);
        opens("select " + forty + "a and (b)", MOST_OPEN);
        opens("select " + forty + "a or (b)", MOST_OPEN);
        opens("select " + forty + "a, (b)", MOST_OPEN);
        opens("select " + forty + "a = ^(b)", MOST_OPEN);
        opens("select " + forty + "a + ^(b)", MOST_OPEN);
        opens("select " + forty + "a in ^(b)", MOST_OPEN);
        opens("select " + forty + "a between b and ^(c)", MOST_OPEN);
        opens("select " + forty + "a like ^- b", MOST_OPEN);
        opens("select " + "not ".repeat(39) + "a between b and (c)", MOST_OPEN);
        opens("select " + "not ".repeat(39) + "a = (b)", MOST_OPEN);
        opens("select " + "not ".repeat(39) + "a in (b)", MOST_OPEN);
        String brackets = "(".repeat(40);
        String closed = ")".repeat(40);
        opens("select " + brackets + "a is not null" + closed, MOST_OPEN);
        opens("select " + brackets + "a not like b" + closed, MOST_OPEN);
        opens("select " + brackets + "a not between b and c" + closed, MOST_OPEN);
        opens("select " + brackets + "^not a" + closed, MOST_OPEN);
        opens("create table t (a int" + " not null".repeat(50) + ")", 1);
    }

    private static void openMinuses() {
        nested("^- ", "a", "");
        String forty = "- ".repeat(40);
        for (String operator : new String[] {"*", "/", "%", "+", "-", "||", "=", "<", ">=", "and", "or", "like", "in", ","}) {
            opens("select " + forty + "a " + operator + " (b)", MOST_OPEN);
        }
        opens("select " + forty + "a * " + forty + "b + " + forty + "c", MOST_OPEN);
        opens("select " + forty + "a between (b) and (c)", MOST_OPEN);
        opens("select " + forty + "^(a)", MOST_OPEN);
        opens("select " + forty + "abs^(a)", MOST_OPEN);
        opens("select " + "- ".repeat(39) + "abs(a)", MOST_OPEN);
        opens("select " + "- ".repeat(39) + "(a)", MOST_OPEN);
        opens("select " + forty + "^case when a then b end", MOST_OPEN);
        String brackets = "(".repeat(40);
        String closed = ")".repeat(40);
        opens("select " + brackets + "a - b" + " - c".repeat(50) + closed, MOST_OPEN);
        opens("select " + brackets + "a - ^- b" + closed, MOST_OPEN);
    }

    private static void openCases() {
        nested("^case when ", "1", " then 1 end");
        nested("^case when 1 then ", "1", " end");
        nested("^case when 1 then 1 else ", "1", " end");
        nested("^case when 1 then 1 when ", "1", " then 1 end");
        String forty = "case when ".repeat(40) + "1" + " then 1 end".repeat(40);
        opens("select " + forty + "," + forty, MOST_OPEN);
        opens("select " + forty + " + (1)", MOST_OPEN);
        opens("select case when 1 then 1 end" + " + case when 1 then 1 end".repeat(100), 1);
        opens("select " + "(".repeat(39) + "case when 1 then 1 end" + ")".repeat(39), MOST_OPEN);
        opens("select " + "(".repeat(39) + "case when 1 then ^(1) end" + ")".repeat(39), MOST_OPEN);
    }

    /** Each round opens five. */
    private static void openTogether() {
        String opener = "not (case when 1 then - abs(";
        String closer = ") end)";
        opens("select " + opener.repeat(8) + "1" + closer.repeat(8), MOST_OPEN);
        opens("select " + opener.repeat(8) + "^(1)" + closer.repeat(8), MOST_OPEN);
        opens("select " + opener.repeat(8) + "^- 1" + closer.repeat(8), MOST_OPEN);
        opens("select " + opener.repeat(8) + "^not 1" + closer.repeat(8), MOST_OPEN);
        opens("select " + opener.repeat(8) + "^case when 1 then 1 end" + closer.repeat(8), MOST_OPEN);
        opens("select " + opener.repeat(8) + "exists ^(select 1)" + closer.repeat(8), MOST_OPEN);
        opens("select " + opener.repeat(8) + "1 in ^(1)" + closer.repeat(8), MOST_OPEN);
        opens("select " + "1 or 1 and 1 = 1 || 1 + 1 * (".repeat(40) + "1" + ")".repeat(40), MOST_OPEN);
        opens("select " + "1 or 1 and 1 = 1 || 1 + 1 * (".repeat(40) + "1 + ^(1)" + ")".repeat(40), MOST_OPEN);
    }

    // ---- the plain form ----

    private static void zeros() {
        plain("select 0", "SELECT 0");
        plain("select 00", "SELECT 0");
        plain("select " + "0".repeat(18), "SELECT 0");
        plain("select 1", "SELECT 1");
        plain("select 01", "SELECT 1");
        plain("select 10", "SELECT 10");
        plain("select 010", "SELECT 10");
        plain("select 100, 0100, 00100, 101", "SELECT 100 , 100 , 100 , 101");
        plain("select " + "0".repeat(17) + "1", "SELECT 1");
        plain("select 1" + "0".repeat(17), "SELECT 1" + "0".repeat(17));
        plain("select -00, -01", "SELECT ( - 0 ) , ( - 1 )");
        plain("create table t (a int default 00, b int default -00, c int default 02, d int default -02)",
            "CREATE TABLE t ( a INT DEFAULT 0 , b INT DEFAULT - 0 , c INT DEFAULT 2 , d INT DEFAULT - 2 )");
        plain("select a limit 00 offset 00", "SELECT a LIMIT 0 OFFSET 0");
        plain("select a limit 03 offset 04", "SELECT a LIMIT 3 OFFSET 4");
        plain("prepare 00", "PREPARE 0");
        plain("prepare 05", "PREPARE 5");
        plain("commit prepared 06", "COMMIT PREPARED 6");
        plain("rollback prepared 070", "ROLLBACK PREPARED 70");
        plain("select a00, _01, '007'", "SELECT a00 , _01 , '007'");
    }

    private static void stringsStay() {
        plain("select ''", "SELECT ''");
        plain("select '  A  b  '", "SELECT '  A  b  '");
        plain("select 'select ( a ) ; -- 007'", "SELECT 'select ( a ) ; -- 007'");
        plain("select 'it''s', ''''", "SELECT 'it''s' , ''''");
    }

    private static void leftOut() {
        plain("begin", "BEGIN SERIALIZABLE");
        plain("begin;", "BEGIN SERIALIZABLE");
        plain("begin serializable", "BEGIN SERIALIZABLE");
        plain("begin read committed", "BEGIN READ COMMITTED");
        plain("create table t (a int references u)", "CREATE TABLE t ( a INT REFERENCES u ON DELETE RESTRICT )");
        plain("create table t (a int references u on delete cascade)", "CREATE TABLE t ( a INT REFERENCES u ON DELETE CASCADE )");
        plain("create table t (a int references u references v on delete set null)",
            "CREATE TABLE t ( a INT REFERENCES u ON DELETE RESTRICT REFERENCES v ON DELETE SET NULL )");
        plain("select a from t, u inner join v on b left outer join w on c order by d asc",
            "SELECT a FROM t CROSS JOIN u JOIN v ON b LEFT JOIN w ON c ORDER BY d");
        plain("select a from t as u order by d desc", "SELECT a FROM t AS u ORDER BY d DESC");
    }
}
