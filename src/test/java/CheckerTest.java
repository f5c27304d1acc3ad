/** Promises 4 (build) and 5 (fault): rights in bodies, FAULTS 2, 3 and 5 to 8. */
public final class CheckerTest {
    private static final Checks CHECKS = new Checks();

    // Two classes and an actor that most bodies here use.
    private static final String KINDS = "class B{var n:int;new(){}}"
        + "class A{var i:iso B;var t:trn B;var r:ref B;var v:val B;var b:box B;var n:int;var m:Main;new(n:int){}"
        + "fun ref set(b:ref B){}fun ref num(n:int):int{return n;}fun box get():box B{return this.b;}"
        + "fun val same():val A{return this;}fun box eat(b:ref B){}fun ref out():iso B{return swap(this.i,none);}"
        + "fun iso end(){}fun trn turn(){}}"
        + "actor W{var a:iso A;new(n:int){}be take(a:iso A,n:int){}be look(v:val A){}fun ref own(){}}";

    public static void main(String[] args) {
        names();
        consuming();
        has();
        operators();
        fields();
        calls();
        callers();
        messages();
        making();
        assignments();
        fieldAssignments();
        swaps();
        recovers();
        vars();
        closings();
        branches();
        values();
        orderOfParts();
        CHECKS.finish();
    }

    private static String main(String steps) {
        return KINDS + "actor Main{var a:ref A;var c:iso A;var t:trn A;var w:W;var n:int;new(){" + steps + "}fun ref go(){}"
            + "fun ref two():int{return 2;}be hi(){}}";
    }

    private static void good(String steps) {
        CHECKS.good(main(steps));
    }

    private static void bad(int number, String steps) {
        CHECKS.bad(number, main(steps));
    }

    private static void names() {
        good("var x:int=1;tell x;");
        bad(3, "tell ^x;");
        bad(3, "var x:int=^x;");
        bad(3, "if 1{var x:int=1;}tell ^x;");
        bad(3, "if 1{var x:int=1;}else{tell ^x;}");
        bad(3, "while 0{var x:int=1;}tell ^x;");
        bad(3, "tell recover{var x:int=1;give x;}+^x;");
        bad(3, "tell ^n;");
        good("if 1{var x:int=1;}if 1{var x:val A=none;}var x:W=none;");
        CHECKS.good("actor Main{new(){}be b(x:int){tell x;}}");
        CHECKS.bad(3, "actor Main{new(){}be b(x:int){}be c(){tell ^x;}}");
    }

    private static void consuming() {
        good("var x:iso A=none;var y:iso A=consume x;");
        bad(7, "var x:iso A=none;var y:iso A=consume x;has(^x);");
        bad(7, "var x:iso A=none;var y:iso A=consume x;consume ^x;");
        bad(3, "consume ^x;");
        bad(7, "var x:int=1;tell consume x;tell ^x;");
        bad(7, "var x:int=1;tell consume x+^x;");
        good("var x:iso A=none;var y:iso A=consume x;x=consume y;consume x;");
        bad(7, "var x:iso A=none;var y:iso A=consume x;x=consume y;tell has(^y);");
        good("var x:iso A=none;x=consume x;consume x;");
        good("var x:trn A=none;var y:trn A=consume x;");
        bad(6, "var x:trn A=none;var y:trn A=^x;");
        good("var x:trn A=none;var y:box A=x;var z:val A=consume x;");
        bad(6, "var x:iso A=none;var y:box A=^x;");
        bad(6, "var x:iso A=none;var y:box A=(^x);");
    }

    private static void has() {
        good("tell has(none)+has(this)+has(this.a)+has(this.c)+has(this.w)+has(new iso A(1));");
        bad(5, "tell has(^1);");
        bad(5, "tell has((^this.n));");
        bad(8, "tell has(^this.go());");
    }

    private static void operators() {
        good("tell 1+2-3*4<5==this.n;");
        bad(5, "tell 1+^none;");
        bad(5, "tell ^none+1;");
        bad(5, "tell ^none+none;");
        bad(5, "tell ^this.a==none;");
        bad(3, "tell none+^x;");
        bad(8, "tell ^this.go()+none;");
        bad(8, "tell 1+^this.go();");
        bad(5, "tell 1+2*^this;");
        bad(5, "tell ^this.w<1+none;");
        bad(5, "tell (1+^none)+x;");
    }

    private static void fields() {
        good("this.a;this.a.i;this.a.t;this.a.r;this.a.v;this.a.b;this.a.n;this.c.i;this.c.v;this.c.n;this.c.m;");
        bad(5, "^this.n.x;");
        bad(5, "^none.x;");
        bad(5, "^this.w.a;");
        bad(8, "^this.go().x;");
        bad(3, "this.^x;");
        bad(3, "this.a.^x;");
        bad(3, "this.^go;");
        bad(6, "this.c.^r;");
        bad(6, "this.c.^b;");
        bad(6, "var x:box A=none;x.^i;");
        good("var x:box A=none;var y:box B=x.r;var z:val B=x.v;");
        bad(6, "var x:box A=none;var y:ref B=^x.r;");
        bad(6, "var x:trn A=none;var y:ref B=^x.r;");
        good("var x:val A=none;var y:val B=x.i;y=x.t;y=x.r;y=x.b;");
        bad(6, "var y:iso B=^this.a.i;");
        bad(6, "var y:trn B=^this.a.t;");
        good("var y:box B=this.a.t;");
        good("(this).n=(this).n;");
        bad(5, "var x:Main=this;^x.n;");
    }

    private static void calls() {
        good("this.a.set(new B());tell this.a.num(1);this.go();tell this.two();");
        bad(5, "^this.n.f();");
        bad(5, "^none.f();");
        bad(5, "^this.w.own();");
        bad(5, "var x:Main=this;^x.go();");
        bad(8, "^this.go().f();");
        bad(3, "this.^x();");
        bad(3, "this.^hi();");
        bad(3, "this.a.^n();");
        bad(3, "this.^n(1);");
        bad(8, "this.^go(1);");
        bad(8, "this.a.^num();");
        bad(8, "this.a.^num(1,2);");
        bad(8, "this.a.^num(none,2);");
        bad(5, "this.a.num(^none);");
        bad(5, "this.a.set(^1);");
        bad(5, "this.a.set(^this);");
        bad(6, "this.a.set(^new val B());");
        bad(8, "this.a.set(^this.go());");
        bad(6, "this.a.set(^this.a.i);");
        bad(8, "tell ^this.go();");
        bad(8, "var x:int=^this.go();");
        bad(3, "this.n.f(^x);");
        bad(3, "this.x.f(1).g(^y);");
        bad(6, "this.a.get().f(^this.c);");
    }

    /** What a fun may be called on. */
    private static void callers() {
        good("var x:val A=none;x.same();x.get();");
        bad(6, "var x:val A=none;^x.num(1);");
        bad(6, "var x:box A=none;^x.same();");
        bad(6, "^this.a.same();");
        good("new val A(1).same();new iso A(1).same();new trn A(1).same();");
        bad(6, "^new A(1).same();");
        bad(6, "^new box A(1).num(1);");
        good("this.c.num(1);this.t.num(1);this.c.out();this.t.out();");
        bad(6, "^this.c.set(new B());");
        bad(6, "^this.t.set(new B());");
        good("new iso A(1).set(new B());new trn A(1).set(new B());");
        bad(6, "^this.c.get();");
        good("this.t.get();this.t.eat(new B());");
        bad(6, "^this.c.eat(new B());");
        bad(6, "^this.c.same();");
        bad(6, "^this.t.same();");
        bad(6, "^this.t.turn();");
        bad(6, "^this.c.end();");
        bad(6, "^this.c.turn();");
        good("new iso A(1).end();new iso A(1).turn();new trn A(1).turn();");
        bad(6, "^new trn A(1).end();");
        good("var x:iso A=none;(consume x).set(new B());");
        bad(7, "var x:iso A=none;^x.num(has(consume x));");
        bad(6, "this.c.^b.f();");
        CHECKS.good("class A{new(){}fun iso f(){this.g();}fun ref g(){}}actor Main{new(){}}");
        CHECKS.bad(6, "class A{new(){}fun box f(){^this.g();}fun ref g(){}}actor Main{new(){}}");
        CHECKS.good("class A{new(){}fun val f():val A{return this;}}actor Main{new(){}}");
        CHECKS.bad(6, "class A{new(){}fun ref f():val A{return ^this;}}actor Main{new(){}}");
        CHECKS.bad(6, "class A{new(){}fun iso f():iso A{return ^this;}}actor Main{new(){}}");
        CHECKS.good("class A{new(){}fun trn f():box A{return this;}}actor Main{new(){}}");
        CHECKS.bad(6, "class A{new(){}fun trn f():ref A{return ^this;}}actor Main{new(){}}");
        CHECKS.good("class A{var a:ref A;new(){this.a=this;}}actor Main{new(){}}");
    }

    private static void messages() {
        good("this!hi();this.w!take(new iso A(1),2);this.w!look(new val A(1));this.w!look(none);");
        good("new W(1)!take(none,1);this.w!look(new trn A(1));");
        bad(5, "^this.a!take(none,1);");
        bad(5, "^none!hi();");
        bad(5, "^1!hi();");
        bad(8, "^this.go()!hi();");
        bad(8, "^this!hi()!hi();");
        bad(3, "this!^go();");
        bad(3, "this!^x();");
        bad(8, "this.w!^take(none);");
        bad(8, "this!^hi(1);");
        bad(5, "this.w!take(^1,1);");
        bad(5, "this.w!take(none,^none);");
        bad(6, "this.w!take(^new trn A(1),1);");
        bad(6, "this.w!take(^this.c,1);");
        bad(6, "this.w!look(^new A(1));");
        bad(8, "tell ^this!hi();");
        bad(3, "this.n!take(^x,1);");
    }

    private static void making() {
        good("var x:iso A=new iso A(1);var y:W=new W(1);var z:box B=new box B();var u:ref B=new B();");
        bad(8, "new ^A();");
        bad(8, "new iso ^A(1,2);");
        bad(8, "new ^W();");
        bad(5, "new A(^none);");
        bad(5, "new W(^this);");
        bad(3, "new A(^x);");
        bad(8, "new A(^this.go());");
        String holder = "class B{new(){}}class H{new(b:ref B){}}class V{new(b:val B,m:Main){}}actor Main{new(){";
        for (String cap : "iso trn val".split(" ")) {
            CHECKS.bad(6, holder + "^new " + cap + " H(new B());}}");
            CHECKS.good(holder + "new " + cap + " V(new val B(),this);}}");
            CHECKS.bad(6, holder + "new " + cap + " H(^new val B());}}");
            CHECKS.bad(8, holder + "new " + cap + " ^H();}}");
        }
        CHECKS.good(holder + "new H(new B());new ref H(new B());new box H(none);}}");
    }

    private static void assignments() {
        good("var x:int=1;x=2;(x)=3;");
        bad(3, "^x=1;");
        bad(3, "x=^y;");
        bad(5, "var x:int=1;x=^none;");
        bad(5, "var x:val A=none;x=^1;");
        bad(5, "var x:val A=none;x=^new val B();");
        bad(5, "var x:W=none;x=^this;");
        bad(6, "var x:val A=none;x=^new A(1);");
        bad(8, "var x:int=1;x=^this.go();");
        bad(8, "^this=none;");
        bad(8, "^1=2;");
        bad(8, "^this.two()=2;");
        bad(8, "^x+y=2;");
        bad(8, "(^new A(x))=2;");
        bad(3, "1=^x;");
        bad(8, "^consume x=1;");
        good("var x:Main=none;x=this;x=none;");
    }

    private static void fieldAssignments() {
        good("this.n=1;this.a=new A(1);this.a.n=2;this.c=new iso A(1);this.c.n=3;this.w=new W(1);this.a.m=this;");
        bad(5, "^this.n.x=1;");
        bad(5, "^this.w.a=none;");
        bad(8, "^this.go().x=1;");
        bad(3, "this.^x=1;");
        bad(3, "this.x=^y;");
        bad(3, "^y.x=1;");
        bad(6, "var x:val A=none;x.^n=1;");
        bad(6, "var x:box A=none;x.^n=none;");
        bad(5, "this.n=^none;");
        bad(6, "this.c=^new A(1);");
        bad(6, "this.c.r=^new B();");
        good("this.c.r=new iso B();this.c.b=new val B();this.c.r=none;this.c.i=none;");
        bad(6, "this.c.b=^new trn B();");
        good("this.t.r=new trn B();this.t.b=new trn B();this.t.t=new iso B();");
        bad(6, "this.t.r=^new B();");
        bad(6, "this.t.b=^new box B();");
        bad(6, "this.c.r=^new val B();");
        bad(6, "this.c=^this.c;");
        bad(7, "var x:iso A=none;^x.i=recover{consume x;give new B();};");
        bad(6, "this.a.^x.y=1;".replace("this.a.^x", "this.c.^r"));
    }

    private static void swaps() {
        good("var x:iso A=swap(this.c,none);var y:int=swap(this.n,2);var z:int=swap(y,3);x=swap(this.c,consume x);");
        good("var x:trn B=swap(this.a.t,none);var y:ref B=swap(this.a.r,none);");
        good("var x:box B=swap(this.t.t,none);x=swap(this.t.r,none);");
        bad(6, "var x:ref B=^swap(this.t.r,none);");
        bad(6, "var x:trn B=^swap(this.t.t,none);");
        good("var x:iso B=swap(this.t.i,none);x=swap(this.c.i,none);var y:val B=swap(this.c.v,none);swap(this.c.n,1);");
        bad(6, "swap(this.c.^r,none);");
        bad(6, "swap(this.c.^b,none);");
        bad(5, "swap(this.c.r,^1);");
        bad(6, "swap(this.c.r,^new B());");
        bad(6, "var x:val A=none;swap(x.^v,none);");
        bad(3, "swap(^x,none);");
        bad(3, "swap(x,^y);");
        bad(7, "var x:iso A=none;consume x;swap(^x,none);");
        bad(7, "var x:iso A=none;swap(^x,consume x);");
        bad(5, "var x:iso A=none;swap(x,^1);");
        bad(8, "swap(^1,2);");
        bad(8, "swap(^this,none);");
        bad(8, "swap(this.n,^this.go());");
        bad(5, "swap(^this.n.x,1);");
        bad(3, "swap(this.^x,1);");
        good("var x:ref A=none;var y:ref A=swap(x,new iso A(1));");
        bad(6, "this.w!take(^swap(this.t,none),1);");
    }

    private static void recovers() {
        good("this.c=recover{var x:ref A=new A(1);x.set(new B());give x;};");
        good("this.c=recover{give new trn A(1);};var v:val A=recover{give new box A(1);};v=recover{give v;};");
        bad(6, "this.c=^recover{give new val A(1);};");
        good("tell recover{give 1;};this.w=recover{give new W(1);};this.w=recover{give none;};");
        bad(8, "recover{^};");
        bad(8, "recover{tell 1;^};");
        bad(8, "recover{^give 1;tell 1;};");
        bad(8, "recover{if 1{^give 1;}give 1;};");
        bad(8, "recover{give ^this.go();};".replace("this.go()", "new W(1)!look(none)"));
        bad(6, "recover{var x:iso A=none;give ^x;};");
        good("var n:int=1;var w:W=none;var v:val A=none;var i:iso A=none;tell recover{w!look(v);w!take(consume i,n);give n;};");
        bad(7, "var i:iso A=none;recover{give consume i;};has(^i);");
        bad(6, "var i:iso A=none;tell recover{give has(^i);};");
        for (String cap : "trn ref box".split(" ")) {
            bad(6, "var i:" + cap + " A=none;tell recover{give has(^i);};");
            bad(6, "var i:" + cap + " A=none;recover{give consume ^i;};");
            good("recover{var i:" + cap + " A=none;give has(i);};");
        }
        bad(3, "recover{give ^x;};");
        bad(7, "var i:ref A=none;consume i;recover{give ^i;};");
        bad(6, "var n:int=1;recover{^n=2;give 1;};");
        bad(6, "var n:int=1;recover{swap(^n,2);give 1;};");
        bad(7, "var n:int=1;recover{consume n;swap(^n,2);give 1;};");
        bad(6, "recover{var n:int=1;recover{^n=1;give 1;};give 1;};");
        bad(6, "recover{var r:ref A=none;recover{give ^r;};give 1;};");
        good("recover{var r:ref A=none;recover{give 1;};r=new A(1);give r;};");
        bad(5, "recover{give ^this.n;};");
        bad(5, "recover{^this.n=1;give 1;};");
        bad(5, "recover{^this.go();give 1;};");
        good("recover{this!hi();give this;}!hi();");
        CHECKS.bad(6, "class A{var n:int;new(){tell recover{give ^this.n;};}}actor Main{new(){}}");
        CHECKS.bad(6, "class A{var n:int;new(){}fun box f(){recover{give ^this;};}}actor Main{new(){}}");
        CHECKS.good("class A{var n:int;new(){}fun val f(){tell recover{give this.n;};}}actor Main{new(){}}");
        bad(2, "var n:int=1;recover{var ^n:int=2;give 1;};");
        bad(6, "var i:iso A=none;recover{^i.n=1;give 1;};");
        good("recover{var i:iso A=none;i.n=1;give consume i;};");
    }

    private static void vars() {
        bad(2, "var x:int=1;var ^x:int=1;");
        bad(2, "var x:int=1;if 1{var ^x:val A=none;}");
        bad(2, "var x:int=1;var ^x:int=none;");
        bad(3, "var x:int=1;var x:int=^y;");
        bad(5, "var x:int=^none;");
        bad(5, "var x:W=^1;");
        bad(5, "var x:W=^this;");
        bad(6, "var x:iso A=^this.c;");
        bad(8, "var x:W=^this.go();");
        CHECKS.bad(2, "actor Main{new(){}be b(x:int){var ^x:int=1;}}");
        CHECKS.good("actor Main{var x:int;new(){var x:int=1;}be b(b:int){}}");
    }

    private static void closings() {
        bad(8, "^return 1;");
        bad(8, "^return x;");
        bad(8, "^give 1;");
        bad(8, "if 1{^give x;}");
        String head = "class A{new(){}fun ref f():int{";
        String rest = "}}actor Main{new(){}}";
        CHECKS.good(head + "return 1;" + rest);
        CHECKS.bad(8, head + "^" + rest);
        CHECKS.bad(8, head + "tell 1;^" + rest);
        CHECKS.bad(8, head + "^return 1;tell 1;" + rest);
        CHECKS.bad(8, head + "if 1{^return 1;}return 2;" + rest);
        CHECKS.bad(8, head + "if 1{^return 1;}" + rest);
        CHECKS.bad(8, head + "^give 1;" + rest);
        CHECKS.bad(8, head + "recover{^return 1;};return 1;" + rest);
        CHECKS.bad(5, head + "return ^none;" + rest);
        CHECKS.bad(3, head + "return ^x;" + rest);
        CHECKS.bad(3, head + "tell ^x;" + rest);
        CHECKS.bad(8, "class A{new(){}fun ref f(){^return 1;}" + rest.substring(1));
        CHECKS.bad(8, "actor Main{new(){}be b(){^return 1;}}");
        CHECKS.bad(6, "class A{new(){}fun ref f():val A{return ^new A();}}actor Main{new(){}}");
        CHECKS.bad(6, "class A{var a:iso A;new(){}fun ref f():iso A{return ^this.a;}}actor Main{new(){}}");
    }

    private static void branches() {
        bad(5, "if ^none{}");
        bad(8, "if ^this.go(){}");
        bad(5, "while ^this{}");
        bad(8, "while ^this.go(){}");
        bad(5, "tell ^none;");
        bad(8, "tell ^this.go();");
        String x = "var x:iso A=none;";
        bad(7, x + "if 1{consume x;}consume ^x;");
        bad(7, x + "if 1{}else{consume x;}consume ^x;");
        bad(7, x + "if 1{consume x;}else{}consume ^x;");
        bad(7, x + "if 1{consume x;}else{consume x;}consume ^x;");
        bad(7, x + "if 1{consume x;x=none;}else{consume x;}consume ^x;");
        bad(7, x + "if has(consume x){}consume ^x;");
        bad(7, x + "if has(consume x){x=none;}consume ^x;");
        bad(7, x + "if has(consume x){x=none;}else{}consume ^x;");
        good(x + "if has(consume x){x=none;}else{x=none;}consume x;");
        good(x + "if 1{consume x;}else{consume x;}x=none;consume x;");
        good(x + "if 1{consume x;x=none;}consume x;");
        bad(7, x + "^while 1{consume x;}");
        bad(7, x + "^while has(consume x){}");
        good(x + "while has(consume x){x=none;}x=none;consume x;");
        bad(7, x + "while has(consume x){x=none;}consume ^x;");
        good(x + "while 1{consume x;x=none;}consume x;");
        good(x + "consume x;while 1{x=none;consume x;}");
        bad(7, x + "consume x;while 1{x=none;}consume ^x;");
        good("while 1{var y:iso A=none;consume y;}");
        bad(7, x + "while 1{^while 1{consume x;}}");
        bad(7, x + "^while 1{if 1{consume x;}}");
        bad(3, x + "while 1{consume x;tell ^y;}");
        bad(7, x + "while 1{consume x;consume ^x;}");
    }

    private static void values() {
        good("this;1;none;this.c;this.go();this!hi();new A(1);recover{give 1;};");
        bad(6, "var x:val A=none;x=^this.a;");
        good("this.w!look(recover{give new A(1);});");
        bad(5, "var x:val A=^this;");
        good("var x:Main=(this);");
    }

    private static void orderOfParts() {
        bad(3, "this.a.num(1).f(^x).g();".replace(".num(1)", ""));
        bad(3, "x.f(y).g(^z);");
        bad(3, "x.f(^y).g(1);");
        bad(3, "^x.f(1).g(1);");
        bad(3, "^x.f+y;");
        bad(5, "^none.f+y;");
        bad(3, "tell this.n+^x+none;");
        bad(3, "x.y=^z;");
        bad(3, "tell swap(x,^z);");
        bad(5, "this.n=^none;tell x;");
        bad(8, "this.a.^num(this,this);");
    }
}
