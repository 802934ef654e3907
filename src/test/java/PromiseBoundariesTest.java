import java.math.BigInteger;

/**
 * Every sentence of promises 1 to 11 that names a boundary, on both of its sides. No object here is used for more than
 * its 512 calls: a tape can be filled with them only by a plain form that is much longer than its text.
 */
final class PromiseBoundariesTest {
    private static final int TAPE = 65536;
    /** 5040 sources more, of 2 characters each, are 13 each in the plain form. */
    private static final String SOURCES = ",t".repeat(5040);
    private static final String PLAIN_SOURCES = " CROSS JOIN t".repeat(5040);

    public static void main(String[] args) {
        Checks.test("Call limit: an object is used for at most 512 calls", PromiseBoundariesTest::callLimit);
        Checks.test("Promise 1: An empty tape", PromiseBoundariesTest::promise1EmptyTape);
        Checks.test("Promise 1: nothing was read", PromiseBoundariesTest::promise1NothingRead);
        Checks.test("Promise 2: the highest byte first", PromiseBoundariesTest::promise2HighestByteFirst);
        Checks.test("Promise 2: when there is no room for twenty", PromiseBoundariesTest::promise2NoRoom);
        Checks.test("Promise 3: when n is not 0 .. what there are", PromiseBoundariesTest::promise3NotThere);
        Checks.test("Promise 3: the others are taken off", PromiseBoundariesTest::promise3TakenOff);
        Checks.test("Promise 4: its first byte", PromiseBoundariesTest::promise4FirstByte);
        Checks.test("Promise 4: the length + 1 at the end", PromiseBoundariesTest::promise4AtTheEnd);
        Checks.test("Promise 4: blanks behind the last token counted", PromiseBoundariesTest::promise4BlanksCounted);
        Checks.test("Promise 4: and there is no plain form", PromiseBoundariesTest::promise4NoPlainForm);
        Checks.test("Promise 5: 0 nothing, or no statement", PromiseBoundariesTest::promise5NoStatement);
        Checks.test("Promise 6: 0 when there is none", PromiseBoundariesTest::promise6None);
        Checks.test("Promise 7: when there is none", PromiseBoundariesTest::promise7None);
        Checks.test("Promise 8: from 0 on", PromiseBoundariesTest::promise8FromZero);
        Checks.test("Promise 8: wrapping", PromiseBoundariesTest::promise8Wrapping);
        Checks.test("Promise 9: each once", PromiseBoundariesTest::promise9EachOnce);
        Checks.test("Promise 9: all its n, of whatever", PromiseBoundariesTest::promise9OfWhatever);
        Checks.test("Promise 9: 0 when there is none", PromiseBoundariesTest::promise9None);
        Checks.test("Promise 10: the most that were open at once", PromiseBoundariesTest::promise10Most);
        Checks.test("Promise 10: up to where it was a text", PromiseBoundariesTest::promise10UpToTheFault);
        Checks.test("Promise 10: 0 before the first one", PromiseBoundariesTest::promise10BeforeTheFirst);
        Checks.test("Promise 11: with room on it (65536)", PromiseBoundariesTest::promise11Room);
        Checks.test("Promise 11: whether there is one", PromiseBoundariesTest::promise11None);
        Checks.test("Promise 11: in place of what is there", PromiseBoundariesTest::promise11InPlace);
        Checks.finish("PromiseBoundariesTest");
    }

    // ---- what the tests share ----

    private static void twentyBlanks(QueryReader x) {
        x.feed(0x20202020, 0x20202020, 0x20202020, 0x20202020, 0x20202020);
    }

    private static String longForm(int length) {
        String item = "a".repeat(length - PLAIN_SOURCES.length() - "SELECT  FROM t".length());
        return "SELECT " + item + " FROM t" + PLAIN_SOURCES;
    }

    /** A reader that has read a statement whose plain form is so long (65535 and a few more); 506 calls are used. */
    private static QueryReader withLongForm(int length) {
        QueryReader x = new QueryReader();
        Checks.feedWithBlanks(x, longForm(length).replace(" CROSS JOIN t", ",t"));
        x.read();
        return x;
    }

    /** A reader with so many bytes on the tape, the first ones of longForm(65536); 508 calls are used. */
    private static QueryReader withTape(int bytes) {
        QueryReader x = withLongForm(TAPE);
        x.again();
        x.end(bytes);
        return x;
    }

    private static QueryReader reading(String text) {
        QueryReader x = new QueryReader();
        Checks.read(x, text);
        return x;
    }

    private static void readIs(String text, int due) {
        Checks.same("reading [" + text + "]", Checks.read(new QueryReader(), text), due);
    }

    private static void hasNothing(String when, QueryReader x) {
        Checks.same(when + ", kind", x.kind(), 0);
        Checks.same(when + ", length", x.length(), 0);
        Checks.same(when + ", mark", x.mark(), 0);
        Checks.same(when + ", names", x.names(), 0);
        Checks.fails(when + ", letter(0)", IndexOutOfBoundsException.class, () -> x.letter(0));
        Checks.holds(when + ", again", !x.again());
    }

    private static void tapeHolds(String when, QueryReader x, int bytes) {
        Checks.fails(when + ", end of one more", IllegalArgumentException.class, () -> x.end(bytes + 1));
        Checks.passes(when + ", end of all", () -> x.end(bytes));
    }

    // ---- the boundaries ----

    private static void callLimit() {
        QueryReader x = new QueryReader();
        for (int i = 0; i < 170; i++) {
            Checks.feed(x, i % 2 == 0 ? "select a" : "select a from");
            Checks.same("reading " + i, x.read(), i % 2 == 0 ? 0 : 14);
        }
        Checks.same("call 511", x.depth(), 0);
        Checks.same("call 512", x.kind(), 0);
        QueryReader y = new QueryReader();
        for (int i = 0; i < 510; i++) {
            twentyBlanks(y);
        }
        Checks.same("call 511 behind 510 feeds", y.read(), 10201);
        Checks.fails("call 512 behind 510 feeds", IllegalArgumentException.class, () -> y.end(1));
    }

    private static void promise1EmptyTape() {
        tapeHolds("new", new QueryReader(), 0);
        Checks.same("new, read", new QueryReader().read(), 1);
        QueryReader fed = new QueryReader();
        twentyBlanks(fed);
        tapeHolds("fed once", fed, 20);
        QueryReader other = new QueryReader();
        tapeHolds("new beside one that was fed", other, 0);
    }

    private static void promise1NothingRead() {
        QueryReader x = new QueryReader();
        hasNothing("new", x);
        Checks.same("new, depth", x.depth(), 0);
        Checks.feed(x, "select (a)");
        hasNothing("fed but not read", x);
        Checks.same("fed but not read, depth", x.depth(), 0);
        Checks.same("reading", x.read(), 0);
        Checks.same("read, kind", x.kind(), 8);
        Checks.same("read, length", x.length(), 8);
        Checks.same("read, names", x.names(), 1);
        Checks.same("read, depth", x.depth(), 1);
        hasNothing("new beside one that has read", new QueryReader());
    }

    private static void promise2HighestByteFirst() {
        QueryReader x = new QueryReader();
        x.feed(0x73656c65, 0x63742061, 0x62636465, 0x66676869, 0x6a6b6c6d);
        tapeHolds("fed", x, 20);
        x.read();
        Checks.same("the twenty", Checks.plain(x), "SELECT abcdefghijklm");
        for (int place = 0; place < 20; place++) {
            int[] rows = {0x20202020, 0x20202020, 0x20202020, 0x20202020, 0x20202020};
            rows[place / 4] = 0x20202020 & ~(255 << 8 * (3 - place % 4)) | 0xff << 8 * (3 - place % 4);
            x.feed(rows[0], rows[1], rows[2], rows[3], rows[4]);
            Checks.same("byte 255 at place " + place, x.read(), place + 1);
        }
    }

    private static void promise2NoRoom() {
        QueryReader room20 = withTape(TAPE - 20);
        Checks.passes("room for 20, feed", () -> twentyBlanks(room20));
        Checks.fails("room for 0, feed", IllegalStateException.class, () -> twentyBlanks(room20));
        tapeHolds("room for 0", room20, TAPE);

        QueryReader room19 = withTape(TAPE - 19);
        Checks.fails("room for 19, feed", IllegalStateException.class, () -> twentyBlanks(room19));
        tapeHolds("room for 19, nothing came", room19, TAPE - 19);
        Checks.same("room for 19, what was there is read", room19.read(), TAPE - 19 + 1);

        QueryReader room1 = withTape(TAPE - 1);
        Checks.fails("room for 1, feed", IllegalStateException.class, () -> room1.feed(-1, -1, -1, -1, -1));
        Checks.same("room for 1, what was there is read", room1.read(), TAPE - 1 + 1);
        Checks.passes("an empty tape again, feed", () -> twentyBlanks(room1));

        QueryReader room21 = withTape(TAPE - 21);
        Checks.passes("room for 21, feed", () -> twentyBlanks(room21));
        Checks.fails("room for 1, feed behind it", IllegalStateException.class, () -> twentyBlanks(room21));
        tapeHolds("room for 1, nothing more came", room21, TAPE - 1);

        QueryReader whole = withTape(TAPE - 20);
        Checks.feedWithBlanks(whole, longForm(TAPE).substring(TAPE - 20));
        Checks.same("the last twenty come behind the others", whole.read(), 0);
        Checks.same("the mark of all", whole.mark(), Checks.folded(longForm(TAPE)));
    }

    private static void promise3NotThere() {
        QueryReader x = new QueryReader();
        Checks.fails("end(-1) of 0", IllegalArgumentException.class, () -> x.end(-1));
        Checks.fails("end(1) of 0", IllegalArgumentException.class, () -> x.end(1));
        Checks.passes("end(0) of 0", () -> x.end(0));
        Checks.feedWithBlanks(x, "commit");
        Checks.fails("end(-1) of 20", IllegalArgumentException.class, () -> x.end(-1));
        Checks.fails("end(21) of 20", IllegalArgumentException.class, () -> x.end(21));
        Checks.fails("end(least) of 20", IllegalArgumentException.class, () -> x.end(Integer.MIN_VALUE));
        Checks.fails("end(most) of 20", IllegalArgumentException.class, () -> x.end(Integer.MAX_VALUE));
        Checks.passes("end(20) of 20, as the refused ones took nothing off", () -> x.end(20));
        Checks.passes("end(19) of 20", () -> x.end(19));
        Checks.fails("end(20) of 19", IllegalArgumentException.class, () -> x.end(20));
        Checks.passes("end(1) of 19", () -> x.end(1));
        Checks.fails("end(2) of 1", IllegalArgumentException.class, () -> x.end(2));
        Checks.passes("end(0) of 1", () -> x.end(0));
        Checks.fails("end(1) of 0 again", IllegalArgumentException.class, () -> x.end(1));
        tapeHolds("a full tape", withTape(TAPE), TAPE);
    }

    private static void promise3TakenOff() {
        QueryReader x = new QueryReader();
        Checks.feedWithBlanks(x, "commit prepared 12");
        x.end(17);
        Checks.same("17 bytes", x.read(), 0);
        Checks.same("17 bytes, the form", Checks.plain(x), "COMMIT PREPARED 1");
        Checks.feedWithBlanks(x, "commit prepared 12");
        x.end(6);
        Checks.same("6 bytes", x.read(), 0);
        Checks.same("6 bytes, the form", Checks.plain(x), "COMMIT");
        Checks.feedWithBlanks(x, "commit prepared 12");
        x.end(7);
        Checks.feedWithBlanks(x, "; -- what comes next goes behind the seven");
        Checks.same("7 bytes and more", x.read(), 0);
        Checks.feedWithBlanks(x, "commit");
        x.end(5);
        Checks.same("5 bytes: a name", x.read(), 1);
        Checks.feedWithBlanks(x, "commit");
        x.end(0);
        Checks.same("0 bytes", x.read(), 1);
    }

    private static void promise4FirstByte() {
        readIs("select a b", 10);
        readIs("select a bcd efg", 10);
        readIs("select a 'long string'", 10);
        readIs("select a 123456", 10);
        readIs("select a <= <= b", 13);
        readIs("$", 1);
        readIs("  $", 3);
        readIs("select a--\n b", 13);
        readIs("select a ;", 0);
        readIs("select a ;;", 11);
    }

    private static void promise4AtTheEnd() {
        readIs("", 1);
        readIs("select", 7);
        readIs("select a", 0);
        readIs("select a,", 10);
        readIs("select (a", 10);
        readIs("select (a)", 0);
        readIs("select (a;", 10);
        QueryReader full = withTape(TAPE - 20);
        twentyBlanks(full);
        Checks.same("at the end of a full tape", full.read(), TAPE + 1);
        Checks.same("a statement as long as the tape", withTape(TAPE).read(), 0);
        Checks.same("without its last byte", withTape(TAPE - 1).read(), TAPE);
    }

    private static void promise4BlanksCounted() {
        readIs(" ", 2);
        readIs("\t\n\r ", 5);
        readIs("select ", 8);
        readIs("select \n\t\r", 11);
        readIs("select--", 9);
        readIs("select -- x\n", 13);
        readIs("select -- x\n ", 14);
        readIs("-- x", 5);
        readIs("select a ", 0);
        readIs("select a --", 0);
        readIs(" select a b ", 11);
    }

    private static void promise4NoPlainForm() {
        QueryReader x = reading("select a, b from t");
        Checks.same("a statement, length", x.length(), 19);
        Checks.same("reading what is none", Checks.read(x, "select a, b from t u"), 20);
        hasNothing("no statement behind a statement", x);
        Checks.same("reading a statement", Checks.read(x, "select a"), 0);
        Checks.same("a statement behind none", Checks.plain(x), "SELECT a");
        x.read();
        hasNothing("an empty text behind a statement", x);
        for (String text : new String[] {"$", "select", "select a,", "commit;;", "select 'a", "select ((((a)))"}) {
            Checks.read(x, "select a");
            Checks.holds("fault in " + text, Checks.read(x, text) > 0);
            hasNothing(text, x);
        }
    }

    private static void promise5NoStatement() {
        QueryReader x = new QueryReader();
        Checks.same("nothing read", x.kind(), 0);
        String[] texts = {"create table t (a int)", "create index i on t (a)", "drop table t", "drop index i",
            "insert into t values (1)", "update t set a = 1", "delete from t", "select 1", "begin", "commit", "rollback",
            "savepoint s", "rollback to s", "lock table t in share mode", "prepare 1", "commit prepared 1", "rollback prepared 1"};
        for (int i = 0; i < texts.length; i++) {
            Checks.same("reading " + texts[i], Checks.read(x, texts[i]), 0);
            Checks.same("kind of " + texts[i], x.kind(), i + 1);
            Checks.same("reading one token more", Checks.read(x, texts[i] + " table"), texts[i].length() + 2);
            Checks.same("kind of " + texts[i] + " and one token more", x.kind(), 0);
        }
        Checks.read(x, "commit");
        Checks.feed(x, "select");
        Checks.same("what was read last, while the next one comes", x.kind(), 10);
        x.end(0);
        x.read();
        Checks.same("an empty text", x.kind(), 0);
    }

    private static void promise6None() {
        QueryReader x = new QueryReader();
        Checks.same("nothing read", x.length(), 0);
        Checks.read(x, "commit");
        Checks.same("the shortest", x.length(), 6);
        Checks.read(x, "commit commit");
        Checks.same("no statement", x.length(), 0);
        Checks.read(x, "begin");
        Checks.same("longer than its text", x.length(), 18);
        Checks.read(x, "select   ((a))  ;");
        Checks.same("shorter than its text", x.length(), 8);
        x.read();
        Checks.same("an empty text", x.length(), 0);
        Checks.same("as long as the tape", withLongForm(TAPE).length(), TAPE);
        Checks.same("longer than the tape", withLongForm(TAPE + 1).length(), TAPE + 1);
    }

    private static void promise7None() {
        QueryReader x = new QueryReader();
        Checks.fails("nothing read, letter(0)", IndexOutOfBoundsException.class, () -> x.letter(0));
        Checks.fails("nothing read, letter(-1)", IndexOutOfBoundsException.class, () -> x.letter(-1));
        Checks.read(x, "rollback");
        Checks.same("letter(0)", x.letter(0), 'R');
        Checks.same("letter(7)", x.letter(7), 'K');
        Checks.fails("letter(8) of 8", IndexOutOfBoundsException.class, () -> x.letter(8));
        Checks.fails("letter(-1) of 8", IndexOutOfBoundsException.class, () -> x.letter(-1));
        Checks.fails("letter(least)", IndexOutOfBoundsException.class, () -> x.letter(Integer.MIN_VALUE));
        Checks.fails("letter(most)", IndexOutOfBoundsException.class, () -> x.letter(Integer.MAX_VALUE));
        Checks.read(x, "commit");
        Checks.same("letter(5) of 6", x.letter(5), 'T');
        Checks.fails("letter(6) of 6, where a longer form was", IndexOutOfBoundsException.class, () -> x.letter(6));
        Checks.read(x, "commit commit");
        Checks.fails("no statement, letter(0)", IndexOutOfBoundsException.class, () -> x.letter(0));
        Checks.read(x, "select ' ~'");
        Checks.same("the least character of a string", x.letter(8), 32);
        Checks.same("the greatest character of a string", x.letter(9), 126);
        QueryReader longest = withLongForm(TAPE + 1);
        Checks.same("letter(65536) of 65537", longest.letter(TAPE), 't');
        Checks.fails("letter(65537) of 65537", IndexOutOfBoundsException.class, () -> longest.letter(TAPE + 1));
    }

    private static void promise8FromZero() {
        QueryReader x = new QueryReader();
        Checks.same("nothing read", x.mark(), 0);
        Checks.read(x, "commit");
        Checks.same("mark of COMMIT", x.mark(), 1993481527);
        Checks.same("mark of COMMIT, asked twice", x.mark(), 1993481527);
        Checks.read(x, "commit commit");
        Checks.same("no statement", x.mark(), 0);
    }

    /** COMMIT is the only plain form that is too short to wrap. */
    private static void promise8Wrapping() {
        Checks.holds("COMMIT does not wrap", unwrapped("COMMIT").bitLength() < 32);
        Checks.same("mark of COMMIT", reading("commit").mark(), unwrapped("COMMIT").intValueExact());
        for (String form : new String[] {"SELECT 1", "SELECT a", "ROLLBACK", "SELECT *", "BEGIN SERIALIZABLE", "DROP TABLE t"}) {
            Checks.holds(form + " does wrap", unwrapped(form).bitLength() >= 32);
            Checks.same("mark of " + form, reading(form).mark(), unwrapped(form).intValue());
        }
        int below = 0;
        for (char c = 'a'; c <= 'z'; c++) {
            String form = "SAVEPOINT " + c + "bcdefghi";
            int due = unwrapped(form).intValue();
            Checks.same("mark of " + form, reading(form).mark(), due);
            below += due < 0 ? 1 : 0;
        }
        Checks.holds("some marks are below 0 and some are not", below > 0 && below < 26);
        Checks.same("mark of a form longer than the tape", withLongForm(TAPE + 1).mark(), Checks.folded(longForm(TAPE + 1)));
    }

    private static BigInteger unwrapped(String form) {
        BigInteger sum = BigInteger.ZERO;
        for (int i = 0; i < form.length(); i++) {
            sum = sum.multiply(BigInteger.valueOf(31)).add(BigInteger.valueOf(form.charAt(i)));
        }
        return sum;
    }

    private static void namesAre(String text, int due) {
        QueryReader x = new QueryReader();
        Checks.same("reading " + text, Checks.read(x, text), 0);
        Checks.same("names of " + text, x.names(), due);
        Checks.same("names of " + text + ", asked twice", x.names(), due);
    }

    private static void promise9EachOnce() {
        namesAre("select a", 1);
        namesAre("select a, a", 1);
        namesAre("select a, A", 1);
        namesAre("select a, b", 2);
        namesAre("select a, b, a, b, B, A", 2);
        namesAre("select aa, a, aaa", 3);
        namesAre("select a1, a2, a_, _a, _", 5);
        namesAre("select a.a, a.b, b.a", 2);
        namesAre("select a,b,c,d,e,f,g,h,i,j,k,l,m,n,o,p,q,r,s,t,u,v,w,x,y,z,_", 27);
        // Two names with one mark: a table of them by their marks must still tell them apart.
        namesAre("select an, c0", 2);
        namesAre("select anan, anc0, c0an, c0c0, anc0", 4);
        String longest = "abcdefghijklmnopqrstuvwxyz012";
        namesAre("select " + longest + "3, " + longest + "3", 1);
        namesAre("select " + longest + "3, " + longest + "4", 2);
        namesAre("select x" + longest + ", y" + longest, 2);
        StringBuilder list = new StringBuilder();
        for (int i = 0; i < 1000; i++) {
            list.append(", n").append(i);
        }
        QueryReader x = new QueryReader();
        Checks.feedWithBlanks(x, "select n0" + list);
        x.read();
        Checks.same("a thousand names", x.names(), 1000);
        Checks.read(x, "select a");
        Checks.same("one behind a thousand", x.names(), 1);
        Checks.same("names of a form longer than the tape", withLongForm(TAPE + 1).names(), 2);
    }

    private static void promise9OfWhatever() {
        namesAre("create table t (a int references u, b text, primary key (c, d), unique (e), check (f = 1))", 8);
        namesAre("create index i on t (a, b)", 4);
        namesAre("drop table t", 1);
        namesAre("drop index t", 1);
        namesAre("insert into t (a, b) values (c, 1)", 4);
        namesAre("update t set a = b where c", 4);
        namesAre("delete from t where a", 2);
        namesAre("select a as b, c.d, e.* from f as g, h join i on j where k group by l having m order by n", 14);
        namesAre("savepoint s", 1);
        namesAre("rollback to s", 1);
        namesAre("lock table t in share mode", 1);
        namesAre("select 'a', ' b ', 'it''s c ''d', 1 -- e", 0);
        namesAre("select 'a b', a", 1);
    }

    private static void promise9None() {
        QueryReader x = new QueryReader();
        Checks.same("nothing read", x.names(), 0);
        Checks.read(x, "savepoint a");
        Checks.same("one", x.names(), 1);
        Checks.read(x, "savepoint a b");
        Checks.same("no statement", x.names(), 0);
        for (String text : new String[] {"begin", "commit", "rollback", "prepare 1", "commit prepared 1", "select *", "select null"}) {
            namesAre(text, 0);
        }
    }

    private static void depthIs(String text, int fault, int depth) {
        QueryReader x = new QueryReader();
        Checks.same("reading " + text, Checks.read(x, text), fault);
        Checks.same("depth of " + text, x.depth(), depth);
    }

    private static void promise10Most() {
        depthIs("select a", 0, 0);
        depthIs("select (a)", 0, 1);
        depthIs("select (a), (b), (c)", 0, 1);
        depthIs("select (a), ((b)), (c)", 0, 2);
        QueryReader x = reading("select (((a)))");
        Checks.same("three", x.depth(), 3);
        Checks.feed(x, "select ((((a))))");
        Checks.same("the text read last", x.depth(), 3);
        x.read();
        Checks.same("four", x.depth(), 4);
        Checks.read(x, "select (a)");
        Checks.same("less than before", x.depth(), 1);
        Checks.read(x, "commit");
        Checks.same("none", x.depth(), 0);
        depthIs("select " + "(".repeat(40) + "a" + ")".repeat(40), 0, 40);
        depthIs("select " + "(".repeat(41) + "a" + ")".repeat(41), 48, 40);
    }

    private static void promise10UpToTheFault() {
        depthIs("", 1, 0);
        depthIs("(((select a)))", 1, 0);
        depthIs("select a b ((((c))))", 10, 0);
        depthIs("select (a b ((((c)))))", 11, 1);
        depthIs("select (", 9, 1);
        depthIs("select (((", 11, 3);
        depthIs("select ((a)", 12, 2);
        depthIs("select )", 8, 0);
        depthIs("select -", 9, 1);
        depthIs("select - ,", 10, 1);
        depthIs("select not", 11, 1);
        depthIs("select not $ (", 12, 1);
        depthIs("select case", 12, 1);
        depthIs("select a - not (b)", 12, 0);
        depthIs("select - not (b)", 10, 1);
        depthIs("select case when ((a)) then b (((", 31, 3);
        depthIs("create table t (a int check (a)) (((((", 34, 2);
        depthIs("commit (", 8, 0);
    }

    private static void promise10BeforeTheFirst() {
        QueryReader x = new QueryReader();
        Checks.same("new", x.depth(), 0);
        Checks.feed(x, "select (a)");
        Checks.same("fed", x.depth(), 0);
        x.end(9);
        Checks.same("cut", x.depth(), 0);
        Checks.holds("again of nothing", !x.again());
        Checks.same("behind again", x.depth(), 0);
        Checks.same("reading", x.read(), 10);
        Checks.same("the first one", x.depth(), 1);
    }

    private static void promise11Room() {
        QueryReader fits = withLongForm(TAPE);
        Checks.holds("a form of 65536", fits.again());
        tapeHolds("a form of 65536", fits, TAPE);
        Checks.same("reading a form of 65536", fits.read(), 0);
        Checks.same("it is its own plain form", fits.mark(), Checks.folded(longForm(TAPE)));

        QueryReader fewer = withLongForm(TAPE - 1);
        Checks.holds("a form of 65535", fewer.again());
        tapeHolds("a form of 65535", fewer, TAPE - 1);

        QueryReader tooLong = withLongForm(TAPE + 1);
        Checks.feedWithBlanks(tooLong, "commit");
        Checks.holds("a form of 65537", !tooLong.again());
        Checks.same("a form of 65537 is there still", tooLong.length(), TAPE + 1);
        Checks.same("the tape stays, reading it", tooLong.read(), 0);
        Checks.same("the tape stays, its kind", tooLong.kind(), 10);
        QueryReader empty = withLongForm(TAPE + 1);
        Checks.holds("a form of 65537 for an empty tape", !empty.again());
        tapeHolds("an empty tape stays", empty, 0);
    }

    private static void promise11None() {
        QueryReader x = new QueryReader();
        Checks.holds("nothing read", !x.again());
        tapeHolds("nothing read, an empty tape stays", x, 0);
        Checks.feed(x, "rollback");
        Checks.holds("nothing read, a tape", !x.again());
        tapeHolds("nothing read, the tape stays", x, 8);
        Checks.same("nothing read, it is read", x.read(), 0);
        Checks.same("it was rollback", x.kind(), 11);
        Checks.holds("one", x.again());
        Checks.same("reading it", x.read(), 0);
        Checks.read(x, "rollback rollback");
        Checks.feed(x, "commit");
        Checks.holds("no statement", !x.again());
        tapeHolds("no statement, the tape stays", x, 6);
        Checks.same("no statement, it is read", x.read(), 0);
        Checks.same("it was commit", x.kind(), 10);
    }

    private static void promise11InPlace() {
        for (String other : new String[] {"", "a", "commit", "select a from t where b in (1, 2, 3) and c"}) {
            QueryReader x = reading("select a from t, u");
            String form = "SELECT a FROM t CROSS JOIN u";
            Checks.feed(x, other);
            Checks.holds("in place of " + other, x.again());
            tapeHolds("in place of " + other, x, form.length());
            Checks.same("the form stays", Checks.plain(x), form);
            Checks.same("the kind stays", x.kind(), 8);
            Checks.holds("a second time", x.again());
            tapeHolds("a second time", x, form.length());
            Checks.same("reading it", x.read(), 0);
            Checks.same("it is its own plain form", Checks.plain(x), form);
            tapeHolds("behind reading it", x, 0);
        }
    }
}
