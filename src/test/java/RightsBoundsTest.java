/** RIGHTS, sentence by sentence, each tried with all CAPS on both sides of the line: promises 4, 5 and 7. */
public final class RightsBoundsTest {
    private static final Checks CHECKS = new Checks();
    private static final String[] CAPS = {"iso", "trn", "ref", "val", "box"};
    private static final int ISO = 0;
    private static final int TRN = 1;
    private static final int REF = 2;
    private static final int VAL = 3;
    private static final int BOX = 4;
    private static final int NOT = -1;

    // Programs end with one of these.
    private static final String MAIN = "actor Main{new(){}}";
    private static final String B = "class B{var n:int;new(){}}";

    public static void main(String[] args) {
        placesAsValues();
        valuesFit();
        kindsFit();
        noneFits();
        fieldsSeen();
        fieldsSeenOfValues();
        numbersAndActorsSeen();
        called();
        calledOwn();
        fieldsTake();
        swapsGive();
        swapsOfNames();
        newWithCap();
        recoversGive();
        recoversGivePlaces();
        namesFromOutside();
        thisFromOutside();
        asManyArguments();
        nothing();
        nothingAhead();
        goneOfEach();
        goneBehindIf();
        goneBehindWhile();
        seenToTheEnd();
        closings();
        tableNumbers();
        tables();
        CHECKS.finish();
    }

    private static boolean asGood(int a, int b) {
        switch (a) {
            case ISO: return true;
            case TRN: return b != ISO;
            case REF: return b == REF || b == BOX;
            case VAL: return b == VAL || b == BOX;
            default: return b == BOX;
        }
    }

    private static int seenThrough(int a, int b) {
        switch (a) {
            case REF: return b;
            case VAL: return VAL;
            case TRN: return b == ISO || b == VAL ? b : BOX;
            case BOX: return b == ISO ? NOT : b == VAL ? VAL : BOX;
            default: return b == ISO || b == VAL ? b : NOT;
        }
    }

    private static int swappedThrough(int a, int b) {
        switch (a) {
            case REF: return b;
            case TRN: return b == TRN || b == REF ? BOX : b;
            case ISO: return b == ISO || b == VAL ? b : NOT;
            default: return NOT;
        }
    }

    private static boolean isSafe(int a, int b) {
        return a == REF || (a == ISO || a == TRN) && (b == ISO || b == VAL) || a == TRN && b == TRN;
    }

    private static int asValue(int cap) {
        return cap == ISO ? NOT : cap == TRN ? BOX : cap;
    }

    private static void placesAsValues() {
        CHECKS.sentence("AS A VALUE a PLACE with iso can't be taken (6 at it), one with trn is box; all else is as it is.");
        for (int a = 0; a < 5; a++) {
            for (int b = 0; b < 5; b++) {
                boolean good = a != ISO && asGood(asValue(a), b);
                String var = "{var y:" + CAPS[b] + " A=";
                CHECKS.verdict(good, 6, "class A{new(){}fun ref u(x:" + CAPS[a] + " A)" + var + "^x;}}" + MAIN);
                CHECKS.verdict(good, 6, "class A{new(){}fun " + CAPS[a] + " u()" + var + "^this;}}" + MAIN);
                CHECKS.verdict(good, 6, "class A{var f:" + CAPS[a] + " A;new(){}fun ref u()" + var + "^this.f;}}" + MAIN);
                CHECKS.verdict(good, 6, "class A{new(){}fun ref u(x:" + CAPS[a] + " A):" + CAPS[b] + " A{return ^x;}}" + MAIN);
                CHECKS.verdict(good, 6, "class A{new(){}fun ref u(x:" + CAPS[a] + " A){this.v(^x);}fun ref v(y:" + CAPS[b]
                    + " A){}}" + MAIN);
            }
        }
    }

    private static void valuesFit() {
        CHECKS.sentence("the same class with a CAP that is as good: iso is as good as all, trn as trn, ref, val, box, ref as ref and box, "
            + "val as val and box, box as box.");
        for (int a = 0; a < 5; a++) {
            for (int b = 0; b < 5; b++) {
                String kind = "class A{new(){}fun ref u(x:" + CAPS[a] + " A){";
                CHECKS.verdict(asGood(a, b), 6, kind + "var y:" + CAPS[b] + " A=^consume x;}}" + MAIN);
                CHECKS.verdict(asGood(a, b), 6, kind + "var y:" + CAPS[b] + " A=none;y=^consume x;}}" + MAIN);
                CHECKS.verdict(asGood(a, b), 6, kind + "var y:" + CAPS[b] + " A=^new " + CAPS[a] + " A();}}" + MAIN);
                CHECKS.verdict(asGood(a, b), 6, kind + "var z:" + CAPS[a] + " A=none;var y:" + CAPS[b]
                    + " A=^swap(z,none);}}" + MAIN);
                CHECKS.verdict(asGood(a, b), 6, kind + "this.v(^consume x);}fun ref v(y:" + CAPS[b] + " A){}}" + MAIN);
            }
        }
    }

    private static void kindsFit() {
        CHECKS.sentence("A VALUE FITS a TYPE: int and int; the same actor; NONE and any class or actor; the same class");
        String[] values = {"1", "none", "this", "new W()", "new iso A()", "new iso B()"};
        String[] types = {"int", "-", "Main", "W", "box A", "box B"};
        String head = "class A{new(){}}class B{new(){}}actor W{new(){}}actor Main{new(){var x:";
        for (int from = 0; from < values.length; from++) {
            for (int to = 0; to < types.length; to++) {
                if (to != 1) {
                    boolean good = from == to || from == 1 && to != 0;
                    CHECKS.verdict(good, 5, head + types[to] + "=^" + values[from] + ";}}");
                }
            }
        }
    }

    private static void noneFits() {
        CHECKS.sentence("NONE and any class or actor");
        for (String cap : CAPS) {
            CHECKS.good("class A{var a:" + cap + " A;new(a:" + cap + " A){}fun ref f():" + cap + " A{return none;}}"
                + "actor Main{new(){var x:" + cap + " A=none;x=none;swap(x,none);new A(none);new A(none).a=none;}}");
        }
        CHECKS.good("actor Main{var m:Main;new(){this.m=none;this!b(none);}be b(m:Main){}}");
        CHECKS.bad(5, "actor Main{new(){this!b(^none);}be b(m:int){}}");
        CHECKS.bad(5, "actor Main{new(){}fun ref f():int{return ^none;}}");
    }

    private static void fieldsSeen() {
        CHECKS.sentence("THROUGH a CAP a field's CAP is seen as: ref: itself; val: val; trn: iso as iso, val as val, others as box; "
            + "box: iso not at all, val as val, others as box; iso: iso as iso, val as val, others not at all.");
        for (int a = 0; a < 5; a++) {
            for (int b = 0; b < 5; b++) {
                int seen = seenThrough(a, b);
                String head = B + "class A{var f:" + CAPS[b] + " B;new(){}fun ref u(x:" + CAPS[a] + " A){";
                CHECKS.verdict(seen != NOT, 6, head + "x.^f;}}" + MAIN);
                CHECKS.verdict(seen != NOT, 6, head + "tell has(x.^f);}}" + MAIN);
                for (int c = 0; c < 5; c++) {
                    String taken = head + "var y:" + CAPS[c] + " B=" + (seen == NOT ? "x.^f" : "^x.f") + ";}}" + MAIN;
                    CHECKS.verdict(seen != NOT && seen != ISO && asGood(asValue(seen), c), 6, taken);
                }
            }
        }
    }

    private static void fieldsSeenOfValues() {
        CHECKS.sentence("THROUGH a CAP a field's CAP is seen as");
        for (int a = 0; a < 5; a++) {
            for (int b = 0; b < 5; b++) {
                int seen = seenThrough(a, b);
                String head = B + "class A{var f:" + CAPS[b] + " B;new(){}fun " + CAPS[a] + " u(){";
                CHECKS.verdict(seen != NOT, 6, head + "this.^f;}}" + MAIN);
                CHECKS.verdict(seen != NOT, 6, head + "(new " + CAPS[a] + " A()).^f;}}" + MAIN);
                CHECKS.verdict(seen != NOT && seen != VAL && seen != BOX, 6, head
                    + (seen == NOT ? "this.^f.n=1;}}" : "this.f.^n=1;}}") + MAIN);
            }
        }
    }

    private static void numbersAndActorsSeen() {
        CHECKS.sentence("int and actors always are.");
        for (String cap : CAPS) {
            CHECKS.good("class A{var n:int;var m:Main;new(){}fun " + cap + " u(x:" + cap
                + " A):int{var k:Main=x.m;k=this.m;return x.n+this.n;}}" + MAIN);
        }
    }

    private static boolean isCallable(boolean isPlace, int cap, int funCap, boolean isHarmless) {
        if (isPlace && cap == TRN) {
            return funCap == BOX || isHarmless && funCap == REF;
        }
        if (isPlace && cap == ISO) {
            return isHarmless && (funCap == REF || funCap == BOX);
        }
        return asGood(cap, funCap);
    }

    private static void called() {
        CHECKS.sentence("a VALUE's CAP is as good as the fun's; a PLACE's ref, val, box likewise; a PLACE with trn: the fun has box, or is "
            + "HARMLESS and has ref; with iso: it is HARMLESS and has ref or box.");
        String[] types = {"", "int", "Main", "iso B", "trn B", "ref B", "val B", "box B"};
        for (int a = 0; a < 5; a++) {
            for (int f = 0; f < 5; f++) {
                for (String type : types) {
                    boolean sendable = !type.equals("trn B") && !type.equals("ref B") && !type.equals("box B");
                    String argument = type.isEmpty() ? "" : type.equals("int") ? "1" : "none";
                    String list = type.isEmpty() ? "" : "p:int,q:" + type;
                    String values = type.isEmpty() ? "" : "1," + argument;
                    String takes = "fun " + CAPS[f] + " f(" + list + "){}}" + B + MAIN;
                    String gives = "fun " + CAPS[f] + " f()" + (type.isEmpty() ? "{}}" : ":" + type + "{return " + argument + ";}}")
                        + B + MAIN;
                    String head = "class A{var a:" + CAPS[a] + " A;new(){}fun ref u(x:" + CAPS[a] + " A){";
                    boolean place = isCallable(true, a, f, sendable);
                    boolean value = isCallable(false, a, f, sendable);
                    CHECKS.verdict(place, 6, head + "^x.f(" + values + ");}" + takes);
                    CHECKS.verdict(place, 6, head + "^this.a.f();}" + gives);
                    CHECKS.verdict(value, 6, head + "(^consume x).f();}" + gives);
                    CHECKS.verdict(value, 6, head + "^swap(this.a,none).f(" + values + ");}" + takes);
                }
            }
        }
    }

    private static void calledOwn() {
        CHECKS.sentence("OWN is as a class with ref for fields and calls.");
        String head = B + "actor Main{var i:iso B;var t:trn B;var r:ref B;var b:box B;new(){";
        String rest = "}fun ref f(r:ref B):ref B{return r;}}";
        CHECKS.good(head + "this.f(this.f(new B()));this.r=this.r;this.b=this.t;this.t=swap(this.t,none);this.i=swap(this.i,none);" + rest);
        CHECKS.good(head + "this.b=new box B();this.r=new trn B();" + rest);
        CHECKS.bad(5, head + "recover{^this.f(none);give 1;};" + rest);
        CHECKS.bad(5, head + "recover{give ^this.b;};" + rest);
        CHECKS.bad(5, head + "var m:Main=this;^m.f(none);" + rest);
        CHECKS.bad(5, head + "^new Main().b;" + rest);
    }

    private static void fieldsTake() {
        CHECKS.sentence("6 at its NAME if what is ahead has val or box; E must FIT the field's TYPE; and (6 at E) be SAFE: ahead is ref, or E "
            + "is SENDABLE or NONE, or ahead is trn and E trn.");
        for (int a = 0; a < 5; a++) {
            boolean canWrite = a != VAL && a != BOX;
            for (int b = 0; b < 5; b++) {
                String head = B + "class A{var f:" + CAPS[b] + " B;var n:int;var m:Main;new(){}fun ref u(x:" + CAPS[a] + " A,y:";
                for (int c = 0; c < 5; c++) {
                    boolean good = canWrite && asGood(c, b) && isSafe(a, c);
                    String step = canWrite ? "x.f=^consume y;" : "x.^f=consume y;";
                    CHECKS.verdict(good, 6, head + CAPS[c] + " B){" + step + "}}" + MAIN);
                }
                CHECKS.verdict(canWrite, 6, head + "int){x.^f=none;}}" + MAIN);
                CHECKS.verdict(canWrite, 6, head + "int){x.^n=y;}}" + MAIN);
                CHECKS.verdict(canWrite, 6, head + "Main){x.^m=y;}}" + MAIN);
                CHECKS.verdict(canWrite, 6, head + "Main){x.^m=none;}}" + MAIN);
                CHECKS.bad(canWrite ? 5 : 6, head + (canWrite ? "int){x.m=^y;}}" : "int){x.^m=y;}}") + MAIN);
            }
        }
    }

    private static void swapsGive() {
        CHECKS.sentence("it gives, as a VALUE, what was there: a NAME's TYPE; a field's, but through trn: trn and ref as box; through iso 6 "
            + "at the field's NAME (last of all) if it is not SENDABLE.");
        for (int a = 0; a < 5; a++) {
            for (int b = 0; b < 5; b++) {
                int given = swappedThrough(a, b);
                String head = B + "class A{var f:" + CAPS[b] + " B;var n:int;var m:Main;new(){}fun ref u(x:" + CAPS[a] + " A,z:";
                for (int c = 0; c < 5; c++) {
                    String swap = given == NOT ? "swap(x.^f,none)" : "^swap(x.f,none)";
                    CHECKS.verdict(given != NOT && asGood(given, c), 6,
                        head + "int){var y:" + CAPS[c] + " B=" + swap + ";}}" + MAIN);
                    boolean canWrite = a != VAL && a != BOX;
                    boolean taken = asGood(c, b) && isSafe(a, c);
                    String put = canWrite && !taken ? "swap(x.f,^consume z)" : "swap(x.^f,consume z)";
                    CHECKS.verdict(given != NOT && taken, 6, head + CAPS[c] + " B){" + put + ";}}" + MAIN);
                }
                CHECKS.verdict(a != VAL && a != BOX, 6, head + "int){tell swap(x.^n,z);}}" + MAIN);
                CHECKS.verdict(a != VAL && a != BOX, 6, head + "Main){var k:Main=swap(x.^m,z);}}" + MAIN);
            }
        }
    }

    private static void swapsOfNames() {
        CHECKS.sentence("likewise, but a NAME must not be GONE (7, behind 3)");
        for (String type : new String[] {"int", "Main", "iso A", "trn A", "ref A", "val A", "box A"}) {
            String value = type.equals("int") ? "1" : "none";
            String head = "class A{new(){}fun ref u(x:" + type + "){";
            CHECKS.good(head + "var y:" + type + "=swap(x," + value + ");y=swap(x,consume y);}}" + MAIN);
            CHECKS.bad(7, head + "consume x;swap(^x," + value + ");}}" + MAIN);
            CHECKS.bad(7, head + "swap(^x,consume x);}}" + MAIN);
            CHECKS.good(head + "consume x;x=" + value + ";swap(x," + value + ");}}" + MAIN);
            CHECKS.good(head + "x=consume x;consume x;}}" + MAIN);
            CHECKS.bad(3, head + "swap(^z," + value + ");}}" + MAIN);
        }
    }

    private static void newWithCap() {
        CHECKS.sentence("of a class with iso, trn or val 6 at new, if not all parameters are SENDABLE; a VALUE with that CAP (ref without one)");
        String[] types = {"int", "Main", "iso B", "trn B", "ref B", "val B", "box B"};
        for (String type : types) {
            boolean sendable = !type.equals("trn B") && !type.equals("ref B") && !type.equals("box B");
            String value = type.equals("int") ? "1" : "none";
            for (String cap : new String[] {"", "iso ", "trn ", "ref ", "val ", "box "}) {
                boolean good = sendable || cap.isEmpty() || cap.equals("ref ") || cap.equals("box ");
                CHECKS.verdict(good, 6, B + "class A{new(n:int,p:" + type + "){}}actor Main{new(){^new " + cap + "A(1," + value + ");}}");
                CHECKS.verdict(good, 6, B + "class A{new(p:" + type + ",n:int){}}actor Main{new(){^new " + cap + "A(" + value + ",1);}}");
            }
        }
        for (int b = 0; b < 5; b++) {
            CHECKS.verdict(asGood(REF, b), 6, B + "actor Main{new(){var x:" + CAPS[b] + " B=^new B();}}");
        }
    }

    private static void recoversGive() {
        CHECKS.sentence("It gives what its give gives: iso for iso, trn, ref; val for val, box; else the same; a VALUE.");
        for (int a = 0; a < 5; a++) {
            int given = a == VAL || a == BOX ? VAL : ISO;
            for (int b = 0; b < 5; b++) {
                CHECKS.verdict(asGood(given, b), 6, B + "actor Main{new(){var x:" + CAPS[b] + " B=^recover{give new " + CAPS[a]
                    + " B();};}}");
            }
        }
        CHECKS.good("actor Main{new(){var x:int=recover{give 1;};var y:Main=recover{give this;};y=recover{give none;};}}");
        CHECKS.bad(5, "actor Main{new(){var x:int=^recover{give this;};}}");
        CHECKS.bad(5, "actor Main{new(){var x:int=^recover{give none;};}}");
        CHECKS.bad(5, "actor Main{new(){var x:Main=^recover{give 1;};}}");
        CHECKS.bad(8, "actor Main{new(){recover{give ^this!b();};}be b(){}}");
    }

    private static void recoversGivePlaces() {
        CHECKS.sentence("return, give: E AS A VALUE");
        for (int a = 0; a < 5; a++) {
            int given = a == REF ? ISO : a == ISO ? NOT : VAL;
            for (int b = 0; b < 5; b++) {
                String give = given == NOT ? "recover{var y:" + CAPS[a] + " B=none;give ^y;}"
                    : "^recover{var y:" + CAPS[a] + " B=none;give y;}";
                CHECKS.verdict(given != NOT && asGood(given, b), 6, B + "actor Main{new(){var x:" + CAPS[b] + " B=" + give + ";}}");
            }
        }
    }

    private static void namesFromOutside() {
        CHECKS.sentence("in its BLOCK NAMES from outside (behind 3, 7): int, actors, val can be used, iso by consume alone, all else is 6 at "
            + "the NAME");
        String[] types = {"int", "Main", "iso A", "trn A", "ref A", "val A", "box A"};
        for (String type : types) {
            boolean usable = type.equals("int") || type.equals("Main") || type.equals("val A");
            boolean consumable = usable || type.equals("iso A");
            String value = type.equals("int") ? "1" : "none";
            String head = "class A{var n:int;new(){}fun ref u(x:" + type + "){";
            CHECKS.verdict(usable, 6, head + "recover{^x;give 1;};}}" + MAIN);
            CHECKS.verdict(consumable, 6, head + "recover{consume ^x;give 1;};}}" + MAIN);
            CHECKS.verdict(consumable, 6, head + "recover{give consume ^x;};}}" + MAIN);
            CHECKS.verdict(usable, 6, head + "recover{recover{^x;give 1;};give 1;};}}" + MAIN);
            CHECKS.verdict(consumable, 6, head + "recover{recover{consume ^x;give 1;};give 1;};}}" + MAIN);
            CHECKS.verdict(usable, 6, head + "recover{var y:" + type + "=" + value + ";recover{^y;give 1;};give 1;};}}" + MAIN);
            CHECKS.good(head + "recover{var y:" + type + "=" + value + ";y;consume y;y=" + value + ";swap(y," + value
                + ");give 1;};}}" + MAIN);
            CHECKS.bad(6, head + "recover{^x=" + value + ";give 1;};}}" + MAIN);
            CHECKS.bad(6, head + "recover{swap(^x," + value + ");give 1;};}}" + MAIN);
            CHECKS.bad(6, head + "recover{var y:" + type + "=" + value + ";recover{^y=" + value + ";give 1;};give 1;};}}" + MAIN);
            CHECKS.bad(7, head + "consume x;recover{^x;give 1;};}}" + MAIN);
            CHECKS.bad(7, head + "consume x;recover{consume ^x;give 1;};}}" + MAIN);
            CHECKS.bad(3, head + "recover{^z;give 1;};}}" + MAIN);
            CHECKS.good(head + "recover{give 1;};x;x=" + value + ";}}" + MAIN);
        }
        CHECKS.bad(6, "class A{var n:int;new(){}fun ref u(x:iso A){recover{^x.n=1;give 1;};}}" + MAIN);
        CHECKS.bad(7, "class A{var n:int;new(){}fun ref u(x:iso A){recover{give consume x;};^x;}}" + MAIN);
    }

    private static void thisFromOutside() {
        CHECKS.sentence("this is 6, but with val as ever, and in an actor its actor, not OWN.");
        for (String cap : CAPS) {
            boolean good = cap.equals("val");
            CHECKS.verdict(good, 6, "class A{var n:int;new(){}fun " + cap + " f(){recover{give has(^this);};}}" + MAIN);
            CHECKS.verdict(good, 6, "class A{var n:int;new(){}fun " + cap + " f(){recover{give ^this.n;};}}" + MAIN);
            CHECKS.verdict(good, 6, "class A{var n:int;new(){}fun " + cap + " f(){recover{recover{^this;give 1;};give 1;};}}" + MAIN);
            CHECKS.good("class A{var n:int;new(){}fun " + cap + " f(){recover{give 1;};this;}}" + MAIN);
        }
        CHECKS.bad(6, "class A{var n:int;new(){recover{give ^this.n;};}}" + MAIN);
        CHECKS.good("actor Main{var n:int;new(){recover{this!b(this);give this;};}be b(m:Main){}}");
        CHECKS.bad(5, "actor Main{var n:int;new(){recover{give ^this.n;};}}");
        CHECKS.bad(5, "actor Main{var n:int;new(){recover{^this.n=1;give 1;};}}");
        CHECKS.bad(5, "actor Main{var n:int;new(){recover{swap(^this.n,1);give 1;};}}");
    }

    private static String list(String part, int count) {
        return count == 0 ? "" : part + Checks.repeat("," + part, count - 1);
    }

    private static void asManyArguments() {
        CHECKS.sentence("8 at the NAME if there are not as many arguments as parameters");
        for (int parameters = 0; parameters <= 6; parameters++) {
            StringBuilder names = new StringBuilder();
            for (int i = 0; i < parameters; i++) {
                names.append(i == 0 ? "" : ",").append("p").append(i).append(":int");
            }
            for (int given = 0; given <= 6; given++) {
                boolean good = given == parameters;
                String rest = "}fun ref f(" + names + "){}be b(" + names + "){}}class A{new(" + names + "){}}actor W{new(" + names + "){}}";
                CHECKS.verdict(good, 8, "actor Main{new(){this.^f(" + list("1", given) + ");" + rest);
                CHECKS.verdict(good, 8, "actor Main{new(){this!^b(" + list("1", given) + ");" + rest);
                CHECKS.verdict(good, 8, "actor Main{new(){new ^A(" + list("1", given) + ");" + rest);
                CHECKS.verdict(good, 8, "actor Main{new(){new iso ^A(" + list("1", given) + ");" + rest);
                CHECKS.verdict(good, 8, "actor Main{new(){new ^W(" + list("1", given) + ");" + rest);
            }
        }
    }

    private static void nothing() {
        CHECKS.sentence("NOTHING is 8 at it, ahead of all else that is asked of it, wherever it is not an EXPR alone.");
        String[] good = {"this.go();", "this!b(1);", "(this.go());"};
        String[] bad = {"var x:int=@;", "var x:Main=@;", "this.n=@;", "var x:int=1;x=@;", "swap(this.n,@);", "this.f(@);", "this!b(@);",
            "new A(@);", "new W(@);", "tell @;", "if @{}", "while @{}", "1+@;", "@+1;", "@==1;", "has(@);", "@.n;", "@.n=1;", "@.f(1);",
            "@!b(1);", "recover{give @;};", "swap(@.n,1);", "this.f(1+@);", "(@)+1;"};
        String head = "class A{var n:int;new(n:int){}}actor W{new(n:int){}}actor Main{var n:int;new(){";
        String rest = "}fun ref go(){}fun ref f(n:int):int{return n;}be b(n:int){}}";
        for (String step : good) {
            CHECKS.good(head + step + rest);
        }
        for (String step : bad) {
            if (!step.startsWith("recover")) {
                CHECKS.bad(8, head + step.replace("@", "^this.go()") + rest);
            }
            CHECKS.bad(8, head + step.replace("@", "^this!b(1)") + rest);
        }
        CHECKS.bad(8, head + "}fun ref go(){}fun ref f():int{return ^this.go();}}");
    }

    private static void nothingAhead() {
        CHECKS.sentence("NOTHING is 8 at it, ahead of all else that is asked of it");
        String head = "actor Main{var n:int;new(){var x:int=1;";
        String rest = "}fun ref go(){}fun ref f(n:int):int{return n;}be b(n:int){}}";
        CHECKS.bad(8, head + "var x:int=^this.go();" + rest);
        CHECKS.bad(8, head + "this.f(^this.go(),1);" + rest);
        CHECKS.bad(8, head + "this.f(^this.go(),z);" + rest);
        CHECKS.bad(8, head + "z=^this.go();" + rest);
        CHECKS.bad(8, head + "^this.go().z;" + rest);
        CHECKS.bad(8, head + "1=^this.go();" + rest);
        CHECKS.bad(8, head + "^this.go()+this;" + rest);
        CHECKS.bad(5, head + "^this+this.go();" + rest);
    }

    /** Each of sixteen locals is GONE for itself. */
    private static void goneOfEach() {
        CHECKS.sentence("consume: likewise (at its NAME), then the NAME is GONE; it gives its TYPE, as a VALUE.");
        StringBuilder all = new StringBuilder();
        for (int i = 6; i < 16; i++) {
            all.append("var v").append(i).append(":iso A=none;");
        }
        String head = "class A{new(){}fun ref u(v0:iso A,v1:iso A,v2:iso A,v3:iso A,v4:iso A,v5:iso A){" + all;
        for (int i = 0; i < 16; i++) {
            String name = "v" + i;
            StringBuilder others = new StringBuilder();
            for (int k = 0; k < 16; k++) {
                others.append(k == i ? "" : "v" + k + ";");
            }
            CHECKS.good(head + "consume " + name + ";" + others + "}}" + MAIN);
            CHECKS.bad(7, head + "consume " + name + ";" + others + "^" + name + ";}}" + MAIN);
            CHECKS.bad(7, head + "consume " + name + ";consume ^" + name + ";}}" + MAIN);
            CHECKS.good(head + "consume " + name + ";" + name + "=none;" + name + ";}}" + MAIN);
            CHECKS.bad(7, head + "^while 1{consume " + name + ";}}}" + MAIN);
            CHECKS.bad(7, head + "if 1{consume " + name + ";}^" + name + ";}}" + MAIN);
            CHECKS.good(head + "while 1{consume " + name + ";" + name + "=none;}" + name + ";}}" + MAIN);
        }
    }

    private static void goneBehindIf() {
        CHECKS.sentence("Behind an if a NAME is GONE if it is behind one of both BLOCKS (without else: behind its BLOCK or its EXPR)");
        String[] exprs = {"1", "has(consume x)"};
        String[] blocks = {"", "consume x;", "x=none;", "consume x;x=none;", "x=none;consume x;"};
        for (String expr : exprs) {
            boolean goneBehindExpr = !expr.equals("1");
            for (String first : blocks) {
                if (!goneBehindExpr || !first.startsWith("consume")) {
                    boolean goneBehindFirst = goneBehind(first, goneBehindExpr);
                    String text = steps("if " + expr + "{" + first + "}^x;");
                    CHECKS.verdict(!goneBehindFirst && !goneBehindExpr, 7, text);
                    for (String second : blocks) {
                        if (!goneBehindExpr || !second.startsWith("consume")) {
                            boolean gone = goneBehindFirst || goneBehind(second, goneBehindExpr);
                            CHECKS.verdict(!gone, 7, steps("if " + expr + "{" + first + "}else{" + second + "}^x;"));
                        }
                    }
                }
            }
        }
    }

    private static boolean goneBehind(String block, boolean before) {
        return block.isEmpty() ? before : block.endsWith("consume x;");
    }

    private static String steps(String steps) {
        return "class A{new(){}fun ref u(n:int,x:iso A){" + steps + "}}" + MAIN;
    }

    private static void goneBehindWhile() {
        CHECKS.sentence("what was not GONE ahead of a while must not be behind its BLOCK (7 at while); behind a while is as behind its EXPR.");
        CHECKS.good(steps("while 1{}x;"));
        CHECKS.good(steps("while 1{x;}x;"));
        CHECKS.bad(7, steps("^while 1{consume x;}"));
        CHECKS.bad(7, steps("^while 1{x=none;consume x;}"));
        CHECKS.good(steps("while 1{consume x;x=none;}x;"));
        CHECKS.bad(7, steps("^while has(consume x){}"));
        CHECKS.good(steps("while has(consume x){x=none;}"));
        CHECKS.bad(7, steps("while has(consume x){x=none;}^x;"));
        CHECKS.good(steps("while has(consume x){x=none;}x=none;x;"));
        CHECKS.good(steps("consume x;while 1{}"));
        CHECKS.good(steps("consume x;while 1{x=none;consume x;}"));
        CHECKS.good(steps("consume x;while 1{x=none;}"));
        CHECKS.bad(7, steps("consume x;while 1{x=none;}^x;"));
        CHECKS.bad(7, steps("while 1{^while 1{consume x;}}"));
        CHECKS.bad(7, steps("^while 1{if n{consume x;}}"));
        CHECKS.bad(7, steps("^while 1{tell recover{consume x;give 1;};}"));
        CHECKS.good(steps("while 1{var y:iso A=none;consume y;}"));
        CHECKS.good(steps("while recover{var y:iso A=none;consume y;give 1;}{}"));
    }

    private static void seenToTheEnd() {
        CHECKS.sentence("(a var can be seen behind its STEP, to the end of its BLOCK)");
        CHECKS.bad(3, steps("var y:int=^y;"));
        CHECKS.bad(3, steps("tell ^y;var y:int=1;"));
        CHECKS.good(steps("var y:int=1;tell y;if 1{tell y;while 0{tell y;}}tell recover{give y;};"));
        for (String head : new String[] {"if 1{", "while 0{", "if 1{}else{"}) {
            CHECKS.good(steps(head + "var y:int=1;tell y;}"));
            CHECKS.bad(3, steps(head + "var y:int=1;}tell ^y;"));
            CHECKS.bad(2, steps("var y:int=1;" + head + "var ^y:int=1;}"));
            CHECKS.bad(2, steps(head + "var ^x:int=1;}"));
            CHECKS.good(steps(head + "var y:int=1;}var y:int=2;" + head + "tell y;}"));
        }
        CHECKS.bad(3, steps("if 1{var y:int=1;}else{tell ^y;}"));
        CHECKS.bad(3, steps("tell recover{var y:int=1;give y;}+^y;"));
        CHECKS.bad(2, steps("var y:int=1;recover{var ^y:int=1;give 1;};"));
        CHECKS.bad(2, steps("var ^n:int=1;"));
        CHECKS.bad(3, "class A{var f:int;new(x:int){}fun ref u(){tell ^f;}}" + MAIN);
        CHECKS.bad(3, "class A{var f:int;new(x:int){}fun ref u(){tell ^x;}}" + MAIN);
    }

    private static void closings() {
        CHECKS.sentence("return is the last STEP of the body of a fun with a TYPE, give of the BLOCK of a recover: 8 at others (ahead of their "
            + "EXPRS), and at the } where one is missing.");
        String fun = "class A{new(){}fun ref f():int{@}}" + MAIN;
        CHECKS.good(fun.replace("@", "return 1;"));
        CHECKS.good(fun.replace("@", "tell 1;return 1;"));
        CHECKS.bad(8, fun.replace("@", "^"));
        CHECKS.bad(8, fun.replace("@", "tell 1;^"));
        CHECKS.bad(8, fun.replace("@", "^return z;return 1;"));
        CHECKS.bad(8, fun.replace("@", "^return z;tell 1;"));
        CHECKS.bad(8, fun.replace("@", "if 1{^return z;}return 1;"));
        CHECKS.bad(8, fun.replace("@", "if 1{}else{^return z;}return 1;"));
        CHECKS.bad(8, fun.replace("@", "while 1{^return z;}return 1;"));
        CHECKS.bad(8, fun.replace("@", "recover{^return z;};return 1;"));
        CHECKS.bad(8, fun.replace("@", "^give z;"));
        CHECKS.bad(8, fun.replace("@", "^give z;return 1;"));
        CHECKS.bad(3, fun.replace("@", "tell ^z;"));
        CHECKS.bad(8, "class A{new(){^return z;}}" + MAIN);
        CHECKS.bad(8, "class A{new(){}fun ref f(){^return z;}}" + MAIN);
        CHECKS.bad(8, "actor Main{new(){}be f(){^return z;}}");
        CHECKS.bad(8, "actor Main{new(){^give z;}}");
        CHECKS.good("actor Main{new(){recover{give 1;};recover{tell 1;give 1;};}}");
        CHECKS.bad(8, "actor Main{new(){recover{^};}}");
        CHECKS.bad(8, "actor Main{new(){recover{tell 1;^};}}");
        CHECKS.bad(8, "actor Main{new(){recover{^give z;give 1;};}}");
        CHECKS.bad(8, "actor Main{new(){recover{if 1{^give z;}give 1;};}}");
        CHECKS.bad(3, "actor Main{new(){recover{tell ^z;};}}");
    }

    private static void tableNumbers() {
        CHECKS.sentence("NONE: it can't be (what 1, 2; what 2 with val and box), no such CAP or what.");
        ActorHouse house = new ActorHouse();
        int[] wrong = {Integer.MIN_VALUE, -2, -1, 5, 6, 7, 25, Integer.MAX_VALUE};
        for (int number : wrong) {
            for (int what = 0; what < 4; what++) {
                for (int cap = 0; cap < 5; cap++) {
                    CHECKS.same("rights(" + what + ", " + number + ", " + cap + ")", house.rights(what, number, cap), -1);
                    CHECKS.same("rights(" + what + ", " + cap + ", " + number + ")", house.rights(what, cap, number), -1);
                }
            }
        }
        for (int what : new int[] {Integer.MIN_VALUE, -2, -1, 4, 5, Integer.MAX_VALUE}) {
            for (int cap = 0; cap < 5; cap++) {
                CHECKS.same("rights(" + what + ", " + cap + ", 0)", house.rights(what, cap, 0), -1);
                CHECKS.same("rights(" + what + ", 2, " + cap + ")", house.rights(what, 2, cap), -1);
            }
        }
    }

    private static void tables() {
        CHECKS.sentence("what 0: 1 if a is as good as b, else 0; 1: as what a field's b is seen through a, 2: what swap gives of such a field, "
            + "3: 1 if E with b is SAFE for a field ahead of which a is (not with val and box), else 0.");
        ActorHouse house = new ActorHouse();
        for (int a = 0; a < 5; a++) {
            for (int b = 0; b < 5; b++) {
                CHECKS.same("rights(0, " + a + ", " + b + ")", house.rights(0, a, b), asGood(a, b) ? 1 : 0);
                CHECKS.same("rights(1, " + a + ", " + b + ")", house.rights(1, a, b), seenThrough(a, b));
                CHECKS.same("rights(2, " + a + ", " + b + ")", house.rights(2, a, b), swappedThrough(a, b));
                CHECKS.same("rights(3, " + a + ", " + b + ")", house.rights(3, a, b), isSafe(a, b) ? 1 : 0);
            }
        }
    }
}
