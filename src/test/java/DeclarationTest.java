/** Promises 4 (build) and 5 (fault): what is declared, FAULTS 2 to 4. */
public final class DeclarationTest {
    private static final Checks CHECKS = new Checks();
    private static final String MAIN = "actor Main{new(){}}";

    public static void main(String[] args) {
        repeated();
        unknown();
        caps();
        sendable();
        order();
        CHECKS.finish();
    }

    private static void repeated() {
        CHECKS.bad(2, MAIN + "actor ^Main{new(){}}");
        CHECKS.bad(2, MAIN + "class A{new(){}}actor ^A{new(){}}class A{new(){}}");
        CHECKS.bad(2, "actor Main{var a:int;var b:int;var ^a:Main;new(){}}");
        CHECKS.bad(2, "actor Main{new(){}fun ref f(){}fun ref ^f(a:int){}}");
        CHECKS.bad(2, "actor Main{new(){}fun ref f(){}be ^f(){}}");
        CHECKS.bad(2, "actor Main{new(){}be f(){}be g(){}fun ref ^f(){}be g(){}}");
        CHECKS.bad(2, "actor Main{new(){}be f(a:int,b:int,^a:int){}}");
        CHECKS.bad(2, "class A{new(a:int,^a:int){}}" + MAIN);
        CHECKS.good("class A{var a:int;new(a:int){}fun ref a(a:int){}}" + MAIN);
        CHECKS.good("class A{var a:int;new(){}fun box f(){}}class B{var a:int;new(){}fun box f(){}}" + MAIN);
    }

    private static void unknown() {
        CHECKS.bad(3, "actor Main{var a:ref ^A;new(){}}");
        CHECKS.bad(3, "actor Main{var a:^A;new(){}}");
        CHECKS.bad(3, "actor Main{new(){}fun ref f(a:val ^A){}}");
        CHECKS.bad(3, "actor Main{new(){}fun ref f():iso ^A{return none;}}");
        CHECKS.bad(3, "actor Main{new(){var a:box ^A=none;}}");
        CHECKS.bad(3, "actor Main{new(){new ^A();}}");
        CHECKS.bad(3, "actor Main{new(){new iso ^A();}}");
        CHECKS.good("actor Main{var a:iso A;new(){}}class A{new(){}}");
        CHECKS.bad(3, "class A{new(){}}^");
        CHECKS.bad(3, "class Main{new(){}}^");
        CHECKS.bad(3, "actor Main{new(a:int){}}  ^");
        CHECKS.bad(3, "actor Mainly{new(){}}^");
        CHECKS.bad(2, "class Main{new(){}}actor ^Main{new(){}}");
    }

    private static void caps() {
        for (String cap : "iso trn ref val box".split(" ")) {
            CHECKS.bad(4, "actor Main{var a:^" + cap + " Main;new(){}}");
            CHECKS.bad(4, "actor Main{new(){}fun ref f(a:^" + cap + " Main){}}");
            CHECKS.bad(4, "actor Main{new(){new ^" + cap + " Main();}}");
            CHECKS.good("class A{new(){}fun " + cap + " f(){}}actor Main{new(){new " + cap + " A();}}");
            if (!cap.equals("ref")) {
                CHECKS.bad(4, "actor Main{new(){}fun ^" + cap + " f(){}}");
            }
        }
        CHECKS.bad(4, "class A{new(){}}actor Main{var a:^A;new(){}}");
        CHECKS.bad(4, "class A{new(){}}actor Main{new(){var a:^A=none;}}");
        CHECKS.bad(4, "class A{new(){}fun ref f():^A{return none;}}" + MAIN);
        CHECKS.bad(4, "class A{new(a:^A){}}" + MAIN);
        CHECKS.good("class A{new(){}}actor Main{new(){new A();}}");
    }

    private static void sendable() {
        for (String cap : "iso val".split(" ")) {
            CHECKS.good("class A{new(){}}actor B{new(a:" + cap + " A){}be b(a:" + cap + " A,n:int,m:Main){}}" + MAIN);
        }
        for (String cap : "trn ref box".split(" ")) {
            CHECKS.bad(4, "class A{new(){}}actor B{new(n:int,^a:" + cap + " A){}}" + MAIN);
            CHECKS.bad(4, "class A{new(){}}actor B{new(){}be b(n:int,^a:" + cap + " A){}}" + MAIN);
            CHECKS.good("class A{new(a:" + cap + " A){}fun ref f(a:" + cap + " A){}}" + MAIN);
            CHECKS.good("class A{new(){}}actor Main{new(){}fun ref f(a:" + cap + " A):" + cap + " A{return none;}}");
        }
        CHECKS.bad(3, "actor Main{new(){}be b(a:ref ^A){}}");
        CHECKS.bad(4, "actor Main{new(){}be b(a:^ref Main){}}");
        CHECKS.bad(4, "class A{new(){}}actor Main{new(){}be b(a:^A){}}");
    }

    private static void order() {
        CHECKS.bad(1, "actor Main{var a:ref A;var a:int;new(){}}^}");
        CHECKS.bad(3, "actor Main{var a:ref ^A;var a:int;new(){}}");
        CHECKS.bad(2, "actor Main{var a:int;var ^a:ref A;new(){}}");
        CHECKS.bad(4, "actor Main{new(){}fun ^val f(a:int,a:int){}}");
        CHECKS.bad(2, "class A{new(){}}actor Main{new(){}be f(a:int,^a:ref A){}}");
        CHECKS.bad(4, "class A{new(){}}actor Main{new(){}be f(^a:ref A,a:int){}}");
        CHECKS.bad(3, "actor Main{new(){tell none;}be f(a:^B){}}");
        CHECKS.bad(3, "actor Main{new(){tell x;new ^B();}}");
        CHECKS.bad(5, "actor Main{new(){tell ^none;}be f(){tell x;}}");
        CHECKS.bad(5, "class A{new(){}fun ref f(){tell ^none;}}actor Main{new(){tell x;}}");
    }
}
