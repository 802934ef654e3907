/** Texts and their plain forms. */
final class PlainFormTest {
    public static void main(String[] args) {
        statements();
        queries();
        expressions();
        tokens();
        Checks.finish("PlainFormTest");
    }

    private static void plain(String text, String form) {
        QueryReader x = new QueryReader();
        Checks.same("reading " + text, Checks.read(x, text), 0);
        Checks.same("plain form of " + text, Checks.plain(x), form);
        Checks.same("mark of " + text, x.mark(), Checks.folded(form));
        Checks.holds("again of " + text, x.again());
        Checks.same("reading again " + form, x.read(), 0);
        Checks.same("again the same: " + form, Checks.plain(x), form);
    }

    private static void value(String text, String form) {
        plain("select " + text, "SELECT " + form);
        plain("update t set a=" + text + " where " + text, "UPDATE t SET a = " + form + " WHERE " + form);
        plain("insert into t values(" + text + ")", "INSERT INTO t VALUES ( " + form + " )");
        plain("select " + text + " as n where " + text + " group by " + text + "," + text + " having " + text + " order by " + text + " desc",
            "SELECT " + form + " AS n WHERE " + form + " GROUP BY " + form + " , " + form + " HAVING " + form + " ORDER BY " + form + " DESC");
        plain("create table t(a int check(" + text + "),check(" + text + "))",
            "CREATE TABLE t ( a INT CHECK ( " + form + " ) , CHECK ( " + form + " ) )");
    }

    private static void statements() {
        plain("create table T(A int,b Text)", "CREATE TABLE t ( a INT , b TEXT )");
        plain("create table t (a int primary key not null unique default 007 check (a>0) references u)",
            "CREATE TABLE t ( a INT PRIMARY KEY NOT NULL UNIQUE DEFAULT 7 CHECK ( ( a > 0 ) ) REFERENCES u ON DELETE RESTRICT )");
        plain("create table t (a int unique unique default null not null)", "CREATE TABLE t ( a INT UNIQUE UNIQUE DEFAULT NULL NOT NULL )");
        plain("create table t (a text default 'It''s', b int default -00, c int default - 12)",
            "CREATE TABLE t ( a TEXT DEFAULT 'It''s' , b INT DEFAULT - 0 , c INT DEFAULT - 12 )");
        plain("create table t (a int references u on delete cascade references v on delete restrict references w on delete set null not null)",
            "CREATE TABLE t ( a INT REFERENCES u ON DELETE CASCADE REFERENCES v ON DELETE RESTRICT REFERENCES w ON DELETE SET NULL NOT NULL )");
        plain("create table t (references_ int references t references t, b int)",
            "CREATE TABLE t ( references_ INT REFERENCES t ON DELETE RESTRICT REFERENCES t ON DELETE RESTRICT , b INT )");
        plain("create table t (primary key (a), unique(b,c), check((a)), check((a or b)))",
            "CREATE TABLE t ( PRIMARY KEY ( a ) , UNIQUE ( b , c ) , CHECK ( a ) , CHECK ( ( a OR b ) ) )");
        plain("create index I on T(a,B)", "CREATE INDEX i ON t ( a , b )");
        plain("create unique index i on t(a);", "CREATE UNIQUE INDEX i ON t ( a )");
        plain("drop table t", "DROP TABLE t");
        plain("DROP index I;", "DROP INDEX i");
        plain("insert into t values (1),(2,3)", "INSERT INTO t VALUES ( 1 ) , ( 2 , 3 )");
        plain("insert into t(a,b) values ((1),((2)))", "INSERT INTO t ( a , b ) VALUES ( 1 , 2 )");
        plain("insert into t select*from u", "INSERT INTO t SELECT * FROM u");
        plain("insert into t(a)select 1", "INSERT INTO t ( a ) SELECT 1");
        plain("update t set a=1,b=c=d where e", "UPDATE t SET a = 1 , b = ( c = d ) WHERE e");
        plain("update t set a=1", "UPDATE t SET a = 1");
        plain("delete from t", "DELETE FROM t");
        plain("delete from t where not a", "DELETE FROM t WHERE ( NOT a )");
        plain("begin", "BEGIN SERIALIZABLE");
        plain("begin;", "BEGIN SERIALIZABLE");
        plain("begin serializable", "BEGIN SERIALIZABLE");
        plain("begin read committed", "BEGIN READ COMMITTED");
        plain("begin read uncommitted", "BEGIN READ UNCOMMITTED");
        plain("commit", "COMMIT");
        plain("commit prepared 0", "COMMIT PREPARED 0");
        plain("rollback", "ROLLBACK");
        plain("rollback to S", "ROLLBACK TO s");
        plain("rollback prepared 000000000000000012", "ROLLBACK PREPARED 12");
        plain("savepoint S", "SAVEPOINT s");
        plain("lock table t in share mode", "LOCK TABLE t IN SHARE MODE");
        plain("lock table t in exclusive mode", "LOCK TABLE t IN EXCLUSIVE MODE");
        plain("prepare 0100", "PREPARE 100");
    }

    private static void queries() {
        plain("select*", "SELECT *");
        plain("select distinct*from t", "SELECT DISTINCT * FROM t");
        plain("select distinct a,b as c,t.*,u.d", "SELECT DISTINCT a , b AS c , t . * , u . d");
        plain("select t.*", "SELECT t . *");
        plain("select t.a*b", "SELECT ( t . a * b )");
        plain("select a from t,u as v,w", "SELECT a FROM t CROSS JOIN u AS v CROSS JOIN w");
        plain("select a from t cross join u", "SELECT a FROM t CROSS JOIN u");
        plain("select a from t inner join u on b=c join v as w on d", "SELECT a FROM t JOIN u ON ( b = c ) JOIN v AS w ON d");
        plain("select a from t left outer join u on (b) left join v on c,w", "SELECT a FROM t LEFT JOIN u ON b LEFT JOIN v ON c CROSS JOIN w");
        plain("select a order by b asc,c desc,d", "SELECT a ORDER BY b , c DESC , d");
        plain("select a limit 01", "SELECT a LIMIT 1");
        plain("select a limit 1 offset 00", "SELECT a LIMIT 1 OFFSET 0");
        plain("select a having b", "SELECT a HAVING b");
        plain("select a from t where b group by c,d having e order by f limit 1 offset 2;",
            "SELECT a FROM t WHERE b GROUP BY c , d HAVING e ORDER BY f LIMIT 1 OFFSET 2");
        plain("select a in (select b from t,u order by c asc limit 1)", "SELECT ( a IN ( SELECT b FROM t CROSS JOIN u ORDER BY c LIMIT 1 ) )");
        plain("select exists(select t.* from t inner join u on a), b", "SELECT EXISTS ( SELECT t . * FROM t JOIN u ON a ) , b");
    }

    private static void expressions() {
        value("a or b or c", "( a OR b OR c )");
        value("(a or b) or c", "( a OR b OR c )");
        value("((a or b)) or ((c))", "( a OR b OR c )");
        value("a or (b or c)", "( a OR ( b OR c ) )");
        value("(a or b) or (c or d) or e", "( a OR b OR ( c OR d ) OR e )");
        value("a and b and c", "( a AND b AND c )");
        value("(a and b) and c", "( a AND b AND c )");
        value("a and (b and c)", "( a AND ( b AND c ) )");
        value("a or b and c or d", "( a OR ( b AND c ) OR d )");
        value("(a or b) and c", "( ( a OR b ) AND c )");
        value("a and b or c and d", "( ( a AND b ) OR ( c AND d ) )");
        value("not a", "( NOT a )");
        value("not not a", "( NOT ( NOT a ) )");
        value("not(not(a))", "( NOT ( NOT a ) )");
        value("not a and b", "( ( NOT a ) AND b )");
        value("not (a and b) and c", "( ( NOT ( a AND b ) ) AND c )");
        value("(not a)", "( NOT a )");
        value("not a = b", "( NOT ( a = b ) )");
        value("(not a) = b", "( ( NOT a ) = b )");
        value("a or not b or c", "( a OR ( NOT b ) OR c )");
        value("a=b", "( a = b )");
        value("(a=b)=c", "( ( a = b ) = c )");
        value("a=(b=c)", "( a = ( b = c ) )");
        value("a<>b or a<b or a<=b or a>b or a>=b", "( ( a <> b ) OR ( a < b ) OR ( a <= b ) OR ( a > b ) OR ( a >= b ) )");
        value("a is null", "( a IS NULL )");
        value("a is not null", "( a IS NOT NULL )");
        value("(a is null) is null", "( ( a IS NULL ) IS NULL )");
        value("a+b is null", "( ( a + b ) IS NULL )");
        value("a in(1)", "( a IN ( 1 ) )");
        value("a in((1))", "( a IN ( 1 ) )");
        value("a not in(1,b+c,(d or e))", "( a NOT IN ( 1 , ( b + c ) , ( d OR e ) ) )");
        value("a not in(select b)", "( a NOT IN ( SELECT b ) )");
        value("a between 1 and 2 and c", "( ( a BETWEEN 1 AND 2 ) AND c )");
        value("a not between b+1 and -2", "( a NOT BETWEEN ( b + 1 ) AND ( - 2 ) )");
        value("a between (b and c) and d", "( a BETWEEN ( b AND c ) AND d )");
        value("a like b||'%'", "( a LIKE ( b || '%' ) )");
        value("a not like b", "( a NOT LIKE b )");
        value("a||b||c", "( a || b || c )");
        value("(a||b)||c", "( a || b || c )");
        value("a||(b||c)", "( a || ( b || c ) )");
        value("a+b-c", "( a + b - c )");
        value("(a-b)+c", "( a - b + c )");
        value("a-(b+c)", "( a - ( b + c ) )");
        value("a-(b-c)-d", "( a - ( b - c ) - d )");
        value("a*b/c%d", "( a * b / c % d )");
        value("(a%b)*c", "( a % b * c )");
        value("a*(b*c)", "( a * ( b * c ) )");
        value("a*b+c*d-e", "( ( a * b ) + ( c * d ) - e )");
        value("a+b*c", "( a + ( b * c ) )");
        value("(a+b)*c", "( ( a + b ) * c )");
        value("a+b||c+d", "( ( a + b ) || ( c + d ) )");
        value("a||b+c*-d", "( a || ( b + ( c * ( - d ) ) ) )");
        value("a||b=c||d", "( ( a || b ) = ( c || d ) )");
        value("a or b and not c=d||e+f*-g", "( a OR ( b AND ( NOT ( c = ( d || ( e + ( f * ( - g ) ) ) ) ) ) ) )");
        value("-a*b+c||d=e and f or g", "( ( ( ( ( ( ( - a ) * b ) + c ) || d ) = e ) AND f ) OR g )");
        value("-a", "( - a )");
        value("- -a", "( - ( - a ) )");
        value("-(-a)", "( - ( - a ) )");
        value("-(a*b)*c", "( ( - ( a * b ) ) * c )");
        value("a- -b", "( a - ( - b ) )");
        value("(-a)-b", "( ( - a ) - b )");
        value("-1", "( - 1 )");
        value("((((a))))", "a");
        value("((t.a))", "t . a");
        value("(1)+('x')+(null)", "( 1 + 'x' + NULL )");
        value("exists(select 1)", "EXISTS ( SELECT 1 )");
        value("not exists(select a or b)", "( NOT EXISTS ( SELECT ( a OR b ) ) )");
        value("case when a then b end", "CASE WHEN a THEN b END");
        value("case when a=1 then -b when (c) then d+e else (f) end+1",
            "( CASE WHEN ( a = 1 ) THEN ( - b ) WHEN c THEN ( d + e ) ELSE f END + 1 )");
        value("abs(a+b)", "ABS ( ( a + b ) )");
        value("(abs((a)))", "ABS ( a )");
        value("length(a)+upper(b)||lower(c)", "( ( LENGTH ( a ) + UPPER ( b ) ) || LOWER ( c ) )");
        value("substr(a,1)=substr(a,1,-1)", "( SUBSTR ( a , 1 ) = SUBSTR ( a , 1 , ( - 1 ) ) )");
        value("coalesce(a)", "COALESCE ( a )");
        value("coalesce(a,b,c or d,e)", "COALESCE ( a , b , ( c OR d ) , e )");
        value("nullif(a,b)", "NULLIF ( a , b )");
        value("cast(a as int)+cast(b||c as text)", "( CAST ( a AS INT ) + CAST ( ( b || c ) AS TEXT ) )");
        value("count(*)", "COUNT ( * )");
        value("count(distinct a)+sum(b)-min(distinct c)", "( COUNT ( DISTINCT a ) + SUM ( b ) - MIN ( DISTINCT c ) )");
        value("max(a*b)/avg((c))", "( MAX ( ( a * b ) ) / AVG ( c ) )");
        value("count(a)", "COUNT ( a )");
    }

    private static void tokens() {
        plain("\t select\r\n--x\na--;\n, 'a--b' -- 'c\n;--", "SELECT a , 'a--b'");
        plain("select'a'as b,1as c from t", "SELECT 'a' AS b , 1 AS c FROM t");
        plain("select 1from t where a<-1and b>=1", "SELECT 1 FROM t WHERE ( ( a < ( - 1 ) ) AND ( b >= 1 ) )");
        plain("SeLeCt Ab_C, _X, _, a__1", "SELECT ab_c , _x , _ , a__1");
        plain("select '  A b ''  c ', '', ''''", "SELECT '  A b ''  c ' , '' , ''''");
        plain("select 0, 00, 10, 010, 123456789012345678, 000000000000000001", "SELECT 0 , 0 , 10 , 10 , 123456789012345678 , 1");
        plain("select a<>b,a< b,a>b,a<=b,a>=b", "SELECT ( a <> b ) , ( a < b ) , ( a > b ) , ( a <= b ) , ( a >= b )");
        plain("select a.b,a . b,a--\n.--\nb", "SELECT a . b , a . b , a . b");
        plain("commit--", "COMMIT");
        plain("commit;--\u0000\u00ff", "COMMIT");
        plain("select a -b- c", "SELECT ( a - b - c )");
    }
}
