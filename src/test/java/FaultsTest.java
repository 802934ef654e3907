/** Where texts are none: in each text here a ^ stands before the token (or the end) at fault, and counts for nothing. */
final class FaultsTest {
    public static void main(String[] args) {
        tokens();
        statements();
        queries();
        expressions();
        Checks.finish("FaultsTest");
    }

    private static void fault(String marked) {
        String text = Checks.unmarked(marked);
        QueryReader x = new QueryReader();
        Checks.same("reading " + text, Checks.read(x, text), Checks.dueOf(marked));
        Checks.same("kind of " + text, x.kind(), 0);
        Checks.same("length of " + text, x.length(), 0);
        Checks.same("mark of " + text, x.mark(), 0);
        Checks.same("names of " + text, x.names(), 0);
        Checks.holds("again of " + text, !x.again());
    }

    private static void faults(String... marked) {
        for (String text : marked) {
            fault(text);
        }
    }

    private static void tokens() {
        faults("select ^$", "select a ^| b", "select a ^|", "select ^\"a\"", "select a^[1]", "select a ^!= b", "^\u000bcommit",
            "^\u000ccommit", "commit ^\u0000", "commit ^\u00e4", "commit^\u007f", "select a ^: b", "^#", "select a < ^> b",
            "select a < ^= b", "select a > ^= b", "select a = ^> b", "select a ^| | b", "select a||^");
        faults("select ^'", "select ^'a", "select ^'a''", "select ^'''", "select ^'a\nb'", "select ^'a\tb'", "select ^'\u007f'",
            "select ^'\u00e4'", "select ^'a--b", "select ^'a''b", "select 'a' ^'b'", "select 12^ab", "select 1^.5", "select 1 ^.",
            "select a.^1", "select a.^", "select ^.a", "select 'a'^b", "select a - -- b\n^", "select a -- b\n^c", "select -- a^");
    }

    private static void statements() {
        faults("^", " \n^", "-- select^", "^;", "^a", "^1", "^'a'", "^(", "^and", "^from t", "^table t", "commit;^;", "commit; ^commit",
            "commit ^commit", "commit ^1", "commit prepared^", "commit prepared ^a", "commit prepared ^-1", "commit prepared 1 ^2",
            "rollback ^s", "rollback to^", "rollback to ^1", "rollback to s ^.a", "rollback prepared ^;", "rollback ^to_s",
            "savepoint^", "savepoint s ^s", "prepare^", "prepare ^'a'", "prepare ^transaction", "^prepared 1");
        faults("begin ^committed", "begin read^", "begin read ^serializable", "begin serializable ^read", "begin read committed ^,",
            "lock ^t", "lock table t^", "lock table t in^", "lock table t in ^mode", "lock table t in share^", "lock table t in share ^exclusive",
            "lock table t ^share", "lock table t in exclusive mode ^x", "lock table ^in share mode");
        faults("create^", "create ^t", "create unique^", "create unique ^table t (a int)", "create table^", "create table ^(", "create table t^",
            "create table t ^a", "create table t (^", "create table t (^)", "create table t (a^)", "create table t (a ^bool)", "create table t (a int^",
            "create table t (a int,^)", "create table t (a int ^b int)", "create table t (a int ^int)", "create table t (a int) ^)",
            "create table t (a int ^null)", "create table t (a int not ^default 1)", "create table t (a int primary^)",
            "create table t (a int default^)", "create table t (a int default ^a)", "create table t (a int default - ^- 1)",
            "create table t (a int default - ^'a')", "create table t (a int default - ^null)", "create table t (a int default ^(1))",
            "create table t (a int default 1 ^+ 1)", "create table t (a int default ^+ 1)", "create table t (a int check ^a)",
            "create table t (a int check (^))", "create table t (a int check (a ^, b))", "create table t (a int references^)",
            "create table t (a int references t ^(b))", "create table t (a int references t on^)", "create table t (a int references t on ^update cascade)",
            "create table t (a int references t on delete^)", "create table t (a int references t on delete ^null)",
            "create table t (a int references t on delete set^)", "create table t (a int references t on delete set ^default)",
            "create table t (a int references t on delete cascade ^on delete cascade)");
        faults("create table t (primary ^(a))", "create table t (primary key ^a)", "create table t (primary key (^))", "create table t (primary key (a,^))",
            "create table t (primary key (a ^int))", "create table t (unique ^a)", "create table t (unique (^1))", "create table t (check ^a)",
            "create table t (check (a) ^not null)", "create table t (unique (a) ^unique)", "create table t (^not null)", "create table t (^int)",
            "create table t (primary key (a^.b))", "create table t (^references t)", "create table t (^select 1)");
        faults("create index^", "create index ^on t (a)", "create index i ^t", "create index i on^", "create index i on t^", "create index i on t (^)",
            "create index i on t (a ^desc)", "create index i on t (a,^)", "create index i on t (a^", "create index i on t (a) ^where a",
            "create unique ^unique index i on t (a)", "drop^", "drop ^t", "drop table^", "drop table ^index", "drop table t^, u", "drop index i ^on t",
            "drop ^unique index i");
        faults("insert^", "insert ^t", "insert into^", "insert into ^values (1)", "insert into t^", "insert into t ^set", "insert into t (^)",
            "insert into t (^1)", "insert into t (^select 1)", "insert into t (a)^", "insert into t (a) ^(b) values (1)", "insert into t values^",
            "insert into t values ^1", "insert into t values (^)", "insert into t values (1^", "insert into t values (1,^)", "insert into t values (1) ^2",
            "insert into t values (1),^", "insert into t values (1), ^2", "insert into t values (^select 1)", "insert into t values (^default)",
            "insert into t (a) ^as", "insert into t ^default", "insert into t values (1) ^select 1", "insert into t select 1 ^values (1)");
        faults("update^", "update ^set", "update t^", "update t ^a = 1", "update t set^", "update t set ^1 = 1", "update t set a^", "update t set a ^+ 1",
            "update t set a =^", "update t set a = 1,^", "update t set a = 1, b^", "update t set a^.b = 1", "update t set a = ^default",
            "update t set a = 1 ^b = 2", "update t set a = 1 where^", "update t set a = 1 where a ^, b = 1", "update t ^as u set a = 1",
            "update t set a = b = c ^= d", "delete^", "delete ^t", "delete from^", "delete from t^, u", "delete from t where^", "delete from t ^set",
            "delete from t ^as u", "delete from t where a ^order by a");
    }

    private static void queries() {
        faults("select^", "select ^all a", "select distinct^", "select distinct ^distinct a", "select ^from t", "select a,^", "select a, ^*", "select * ^, a",
            "select * ^a", "select *^.a", "select a as^", "select a as ^1", "select a as ^'b'", "select a as b ^c", "select a as b^.c", "select a as ^from",
            "select t.* ^as a", "select t.* ^+ 1", "select t.*^.a", "select (t.^*)", "select 1 + t.^*", "select - t.^*", "select abs(t.^*)",
            "select distinct t.* ^t", "select a, t.*, u.*, v.^", "select not t.^*", "select a ^b", "select 1 ^1", "select ^desc");
        faults("select a from^", "select a from ^1", "select a from ^(select 1)", "select a from t ^u", "select a from t as^", "select a from t as ^1",
            "select a from t as u ^as v", "select a from t,^", "select a from t, ^cross join u", "select a from t ^on a", "select a from t cross^",
            "select a from t cross ^u", "select a from t cross join^", "select a from t cross join u ^on a", "select a from t inner^", "select a from t inner ^left join u",
            "select a from t join u^", "select a from t join u ^where a", "select a from t join u on^", "select a from t left^", "select a from t left ^u",
            "select a from t left outer^", "select a from t left outer ^outer join u", "select a from t left ^inner join u", "select a from t ^outer join u",
            "select a from t left join u^", "select a from t left join u ^, v", "select a from t, u ^on a", "select a from t^.b", "select a from t join u ^join v on a",
            "select a from t cross ^left join u", "select a from t inner join u as v ^;");
        faults("select a where^", "select a where a ^where b", "select a where a ^from t", "select a group^", "select a group ^a", "select a group by^",
            "select a group by b,^", "select a group by b ^as c", "select a group by a ^where b", "select a group by a ^desc", "select a having^", "select a having b ^group by c",
            "select a having b ^, c", "select a order^", "select a order ^a", "select a order by^", "select a order by b asc ^desc", "select a order by b desc ^asc",
            "select a order by b,^", "select a order by b ^having c", "select a order by b ^as c", "select a limit^", "select a limit ^-1", "select a limit ^a",
            "select a limit 1 ^, 2", "select a limit 1 offset^", "select a limit 1 offset ^a", "select a limit 1 ^limit 2", "select a limit 1 offset 2 ^offset 3",
            "select a ^offset 1", "select a limit 1 ^order by a", "select a limit 1 ^+ 1", "select a limit 1 offset 2 ^* 3", "select a limit 1 ^select 1",
            "select a from t ^from u", "select a ^union", "select a; ^select b");
    }

    private static void expressions() {
        faults("select (^", "select (^)", "select (a^", "select (a ^, b)", "select a^)", "select (a)^)", "select ^)", "select (^select a)", "select ((^select a))",
            "select a +^", "select a + ^+ b", "select ^+ a", "select a * ^* b", "select a ^(b)", "select -^", "select - ^not a", "select a + ^not b",
            "select a = ^not b", "select a || ^not b", "select not^", "select not ^and", "select a or^", "select a or ^or b", "select a and ^", "select a and ^and b",
            "select ^or", "select a % ^% b", "select a ||  ^|| b", "select a - ^, b", "select a . b ^. c");
        faults("select a = b ^= c", "select a = b ^< c", "select a < b ^is null", "select a is null ^is null", "select a is null ^= b", "select a is null ^+ b", "select a is null ^not null",
            "select a is^", "select a is ^a", "select a is ^1", "select a is not^", "select a is not ^not null", "select a is not ^in (1)", "select a =^", "select a = ^= b",
            "select a not^", "select a not ^= b", "select a not ^null", "select a not ^not in (1)", "select a not ^is null", "select a not ^exists (select 1)",
            "select a in^", "select a in ^b", "select a in (^)", "select a in (1^", "select a in (1,^)", "select a in (1, ^select 1)", "select a in (select 1, 2^",
            "select a in ((^select 1))", "select a in (1) ^in (2)", "select a in (1) ^+ 1", "select a in (select 1^", "select a in (select 1 ^;)",
            "select a between^", "select a between 1^", "select a between 1 ^or 2", "select a between 1 and^", "select a between 1 ^= 2 and 3", "select a between ^not 1 and 2",
            "select a between 1 and 2 ^between 3 and 4", "select a between 1 and 2 ^= b", "select a between 1 and ^not b", "select a between (1 and 2)^",
            "select a like^", "select a like ^like b", "select a like b ^like c", "select a like b ^= c", "select a like ^not b", "select a like b ^escape");
        faults("select exists^", "select exists ^a", "select exists (^1)", "select exists (^)", "select exists (^(select 1))", "select exists (select 1^",
            "select case^", "select case ^a when 1 then 2 end", "select case ^end", "select case ^else 1 end", "select case when^", "select case when a^", "select case when a ^end",
            "select case when a then^", "select case when a then b^", "select case when a then b ^then c", "select case when a then b else^", "select case when a then b else c ^when d then e end",
            "select case when a then b else c ^else d end", "select case when a then b end ^end", "select case when a then b when ^end", "select case when a ^, b",
            "select abs^", "select abs ^a", "select abs(^)", "select abs(a ^, b)", "select abs(^distinct a)", "select abs(^*)", "select abs(a^", "select length(a^;)",
            "select length(a) ^(b)", "select upper(^)", "select lower(a ^as b)", "select lower(^select 1)", "select substr(a^)", "select substr(a, b, c^, d)", "select substr(a,^)",
            "select substr(a, b,^)", "select coalesce(^)", "select coalesce(a,^)", "select nullif(a^)", "select nullif(a, b^, c)", "select nullif(a,^)", "select cast(a^)",
            "select cast(a as^)", "select cast(a as ^b)", "select cast(a as int ^, b)", "select cast(a as text^", "select cast(^as int)", "select cast(a ^, int)");
        faults("select count^", "select count(^)", "select count(*^", "select count(* ^, a)", "select count(^all a)", "select count(distinct^)", "select count(distinct ^*)", "select count(a ^, b)",
            "select count(* ^+ 1)", "select count(t.^*)", "select sum(^*)", "select min(^*)", "select max(^)", "select avg(distinct ^distinct a)", "select avg(a) ^over", "select sum(a ^as b)",
            "select a.^select", "select a.^count", "select ^int", "select null^.a", "select a ^null", "select null ^null", "select 1 ^a", "select ^all");
    }
}
