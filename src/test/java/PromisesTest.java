/** Promises 1 to 11, each with ordinary calls and wrong ones. Their boundaries have tests of their own. */
final class PromisesTest {
    public static void main(String[] args) {
        newObject();
        feed();
        end();
        read();
        kind();
        lengthAndLetter();
        mark();
        names();
        depth();
        again();
        readmeExample();
        Checks.finish("PromisesTest");
    }

    private static void newObject() {
        QueryReader x = new QueryReader();
        Checks.same("new: kind", x.kind(), 0);
        Checks.same("new: length", x.length(), 0);
        Checks.same("new: mark", x.mark(), 0);
        Checks.same("new: names", x.names(), 0);
        Checks.same("new: depth", x.depth(), 0);
        Checks.holds("new: nothing to put again", !x.again());
        Checks.fails("new: letter(0)", IndexOutOfBoundsException.class, () -> x.letter(0));
        Checks.fails("new: end(1)", IllegalArgumentException.class, () -> x.end(1));
        x.end(0);
        Checks.same("new: read", x.read(), 1);
        QueryReader y = new QueryReader();
        Checks.same("another", Checks.read(y, "commit"), 0);
        Checks.same("objects share nothing", x.kind(), 0);
    }

    private static void feed() {
        QueryReader x = new QueryReader();
        x.feed(0x73656c65, 0x63742061, 0x61616161, 0x61616161, 0x61616162);
        Checks.same("feed: twenty bytes", x.read(), 0);
        Checks.same("feed: the highest byte first", Checks.plain(x), "SELECT aaaaaaaaaaaab");
        x.feed(0x73656c65, 0x63742061, 0x20202020, 0x20202020, 0x20202020);
        x.feed(0x66726f6d, 0x20742020, 0x20202020, 0x20202020, 0x20202020);
        Checks.same("feed: behind what is there", x.read(), 0);
        Checks.same("feed: both", Checks.plain(x), "SELECT a FROM t");
        x.feed(0xff80fe00, -1, 0, 0, 0);
        Checks.same("feed: bytes above 127 begin no token", x.read(), 1);
        for (int i = 0; i < 300; i++) {
            x.feed(0x20202020, 0x20202020, 0x20202020, 0x20202020, 0x20202020);
        }
        Checks.same("feed: many", x.read(), 6001);
    }

    private static void end() {
        QueryReader x = new QueryReader();
        x.feed(0x636f6d6d, 0x69742020, 0x20202020, 0x20202020, 0x20202020);
        Checks.fails("end(-1)", IllegalArgumentException.class, () -> x.end(-1));
        Checks.fails("end(21) of 20", IllegalArgumentException.class, () -> x.end(21));
        Checks.fails("end(least)", IllegalArgumentException.class, () -> x.end(Integer.MIN_VALUE));
        Checks.fails("end(most)", IllegalArgumentException.class, () -> x.end(Integer.MAX_VALUE));
        x.end(20);
        x.end(6);
        Checks.fails("end(7) of 6", IllegalArgumentException.class, () -> x.end(7));
        x.end(6);
        Checks.same("end: what is left", x.read(), 0);
        Checks.same("end: COMMIT is left", x.kind(), 10);
        Checks.fails("end(1) behind read", IllegalArgumentException.class, () -> x.end(1));
        x.feed(0x636f6d6d, 0x69742020, 0x20202020, 0x20202020, 0x20202020);
        x.end(5);
        Checks.same("end: a name is left", x.read(), 1);
        x.feed(0x636f6d6d, 0x69742020, 0x20202020, 0x20202020, 0x20202020);
        x.end(0);
        Checks.same("end(0): nothing is left", x.read(), 1);
    }

    private static void read() {
        QueryReader x = new QueryReader();
        Checks.same("read: a statement", Checks.read(x, "rollback"), 0);
        Checks.same("read: the tape is empty then", x.read(), 1);
        Checks.same("read: empty", Checks.read(x, ""), 1);
        Checks.same("read: no plain form behind a fault", x.length(), 0);
        Checks.same("read: only blanks", Checks.read(x, " \t\r\n "), 6);
        Checks.same("read: only a comment", Checks.read(x, "-- commit"), 10);
        Checks.same("read: blanks and comments", Checks.read(x, " -- commit\n--\n "), 16);
        Checks.same("read: blanks behind the last token count", Checks.read(x, "select a from  \n"), 17);
        Checks.same("read: comments behind the last token too", Checks.read(x, "select a from -- t"), 19);
        Checks.same("read: a statement behind a fault", Checks.read(x, "commit"), 0);
        Checks.same("read: its kind", x.kind(), 10);
    }

    private static void kind() {
        String[] texts = {"", "create table t (a int)", "create unique index i on t (a)", "drop table t", "drop index i",
            "insert into t values (1)", "update t set a = 1", "delete from t", "select 1", "begin read committed", "commit",
            "rollback", "savepoint s", "rollback to s", "lock table t in share mode", "prepare 1", "commit prepared 1",
            "rollback prepared 1"};
        QueryReader x = new QueryReader();
        for (int i = 0; i < texts.length; i++) {
            Checks.same("kind: reading " + texts[i], Checks.read(x, texts[i]), i == 0 ? 1 : 0);
            Checks.same("kind of " + texts[i], x.kind(), i);
        }
        Checks.read(x, "create index i on t (a)");
        Checks.same("kind of create index", x.kind(), 2);
        Checks.read(x, "insert into t select 1");
        Checks.same("kind of insert .. select", x.kind(), 5);
        Checks.read(x, "insert into t select");
        Checks.same("kind of no statement", x.kind(), 0);
        Checks.read(x, "begin");
        Checks.same("kind of begin", x.kind(), 9);
        Checks.feed(x, "select");
        Checks.same("kind: feeding changes nothing", x.kind(), 9);
    }

    private static void lengthAndLetter() {
        QueryReader x = new QueryReader();
        Checks.read(x, "select  A ,'b  C' ;");
        String form = "SELECT a , 'b  C'";
        Checks.same("length", x.length(), form.length());
        for (int i = 0; i < form.length(); i++) {
            Checks.same("letter(" + i + ")", x.letter(i), form.charAt(i));
        }
        Checks.fails("letter(-1)", IndexOutOfBoundsException.class, () -> x.letter(-1));
        Checks.fails("letter(length)", IndexOutOfBoundsException.class, () -> x.letter(form.length()));
        Checks.fails("letter(least)", IndexOutOfBoundsException.class, () -> x.letter(Integer.MIN_VALUE));
        Checks.fails("letter(most)", IndexOutOfBoundsException.class, () -> x.letter(Integer.MAX_VALUE));
        Checks.read(x, "select select");
        Checks.same("length of none", x.length(), 0);
        Checks.fails("letter(0) of none", IndexOutOfBoundsException.class, () -> x.letter(0));
    }

    private static void mark() {
        QueryReader x = new QueryReader();
        Checks.read(x, "commit");
        Checks.same("mark of COMMIT", x.mark(), "COMMIT".hashCode());
        Checks.read(x, "select abcdefghij from klmnopqrst");
        Checks.same("mark wraps", x.mark(), "SELECT abcdefghij FROM klmnopqrst".hashCode());
        int mark = x.mark();
        Checks.read(x, "SELECT (ABCDEFGHIJ)\nFROM KLMNOPQRST;");
        Checks.same("mark of another text with the same plain form", x.mark(), mark);
        Checks.read(x, "select abcdefghij from");
        Checks.same("mark of none", x.mark(), 0);
    }

    private static void names() {
        QueryReader x = new QueryReader();
        Checks.read(x, "commit");
        Checks.same("names of commit", x.names(), 0);
        Checks.read(x, "select a, A, b.a, _ from t as b, T, 'x y'");
        Checks.same("names of no statement", x.names(), 0);
        Checks.read(x, "select a, A, b.a, _, 'x y ''z w' || ' v', 1 from t as b, T");
        Checks.same("names: each once, none in strings", x.names(), 4);
        Checks.same("names: asked again", x.names(), 4);
        Checks.read(x, "create table t (a int references u, b text, unique (a, b), check (c.d > 0))");
        Checks.same("names of a table", x.names(), 6);
        Checks.read(x, "select ab, a, abc, b, bc, c, a1, a_, a_1, aa from aaa as aaaa");
        Checks.same("names: one the beginning of another", x.names(), 12);
        Checks.read(x, "select a from a as a where a = a.a group by a order by a");
        Checks.same("names: one of many sorts", x.names(), 1);
        Checks.read(x, "rollback to s");
        Checks.same("names: a savepoint", x.names(), 1);
        manyNames();
    }

    private static void manyNames() {
        QueryReader x = new QueryReader();
        StringBuilder text = new StringBuilder("select z");
        for (int i = 0; i < 1000; i++) {
            text.append(',').append((char) ('a' + i % 25)).append(i / 25);
        }
        Checks.same("names: many", Checks.read(x, text + text.substring("select z".length())), 0);
        Checks.same("names: many, each twice", x.names(), 1001);
    }

    private static void depth() {
        QueryReader x = new QueryReader();
        Checks.read(x, "select ((a))");
        Checks.same("depth of the first text", x.depth(), 2);
        Checks.read(x, "select (a");
        Checks.same("depth of the text read last", x.depth(), 1);
        x.feed(0x28282828, 0x28282828, 0x28282828, 0x28282828, 0x28282828);
        Checks.same("depth while the next text comes", x.depth(), 1);
        x.read();
        Checks.same("depth of a text that is none from its beginning", x.depth(), 0);
        depthIs("commit", 0, 0);
        depthIs("select (a)", 0, 1);
        depthIs("select ((a)), (b)", 0, 2);
        depthIs("select not a and (b)", 0, 1);
        depthIs("select not (a)", 0, 2);
        depthIs("select not a = (b)", 0, 2);
        depthIs("select -a + (b)", 0, 1);
        depthIs("select - - a", 0, 2);
        depthIs("select -a - -b", 0, 1);
        depthIs("select not -a", 0, 2);
        depthIs("select case when (a) then - (b) end", 0, 3);
        depthIs("select a is not null or a not in (1) or a not like b", 0, 1);
        depthIs("create table t (a int not null default - 1)", 0, 1);
        depthIs("create table t (a int check (abs(b) > 0))", 0, 3);
        depthIs("insert into t (a) values (1), ((2))", 0, 2);
        depthIs("create index i on t (a)", 0, 1);
        depthIs("select exists (select count(*) from t)", 0, 2);
        depthIs("select ((a) from (((b)))", 13, 2);
        depthIs("select (", 9, 1);
        depthIs("select - not a", 10, 1);
        depthIs("select (((a))) b (((((1)))))", 16, 3);
        depthIs("select )", 8, 0);
        depthIs("", 1, 0);
    }

    private static void depthIs(String text, int fault, int depth) {
        QueryReader x = new QueryReader();
        Checks.same("depth: reading " + text, Checks.read(x, text), fault);
        Checks.same("depth of " + text, x.depth(), depth);
    }

    private static void again() {
        QueryReader x = new QueryReader();
        Checks.read(x, "select a, - b from t, u");
        String form = "SELECT a , ( - b ) FROM t CROSS JOIN u";
        Checks.same("again: the form", Checks.plain(x), form);
        Checks.feed(x, "commit and much more that goes away");
        Checks.holds("again", x.again());
        Checks.same("again: the form stays", Checks.plain(x), form);
        Checks.fails("again: just the form is there", IllegalArgumentException.class, () -> x.end(form.length() + 1));
        x.end(form.length());
        Checks.same("again: it can be read", x.read(), 0);
        Checks.same("again: it is its own plain form", Checks.plain(x), form);
        Checks.holds("again and more", x.again());
        Checks.feedBehind(x, form.length(), ", v where a = b");
        Checks.same("again and more: read", x.read(), 0);
        Checks.same("again and more: the form", Checks.plain(x), form + " CROSS JOIN v WHERE ( a = b )");
        Checks.read(x, "nothing");
        Checks.feed(x, "commit");
        Checks.holds("again: none", !x.again());
        Checks.same("again: the tape stays", x.read(), 0);
        Checks.same("again: commit stayed", x.kind(), 10);
    }

    /** The calls that README.md shows, with the answers that it tells. */
    private static void readmeExample() {
        QueryReader reader = new QueryReader();
        reader.feed(0x73656c65, 0x63742061, 0x2d622066, 0x726f6d20, 0x742c7520);
        reader.end(19);
        Checks.same("README: read", reader.read(), 0);
        Checks.same("README: kind", reader.kind(), 8);
        Checks.same("README: the plain form", Checks.plain(reader), "SELECT ( a - b ) FROM t CROSS JOIN u");
        Checks.same("README: length", reader.length(), 36);
        Checks.same("README: letter", reader.letter(0), 'S');
        Checks.same("README: names", reader.names(), 4);
        Checks.same("README: depth", reader.depth(), 0);
        Checks.holds("README: again", reader.again());
    }
}
