/** Promises 4 (build), 5 (fault) and 6 (program): what build leaves behind, and the counts. */
public final class ProgramTest {
    private static final Checks CHECKS = new Checks();

    public static void main(String[] args) {
        counts();
        eachPartCounts();
        buildEndsWhatRan();
        faultBehindProgram();
        faultAsked();
        CHECKS.finish();
    }

    private static void counts(String text, int... due) {
        ActorHouse house = CHECKS.built(text);
        for (int what = 0; what < due.length; what++) {
            CHECKS.same("program(" + what + ") of " + text, house.program(what), due[what]);
        }
        CHECKS.same("program(-1)", house.program(-1), -1);
        CHECKS.same("program(5)", house.program(5), -1);
        CHECKS.same("program of the greatest int", house.program(Integer.MAX_VALUE), -1);
    }

    private static void counts() {
        counts("actor Main{new(){}}", 1, 0, 0, 0, 0);
        counts("class A{var a:int;var b:int;new(c:int){}fun ref f(){}}actor Main{var d:int;new(){}be g(){}fun ref h(){}}",
            2, 3, 3, 0, 0);
        counts("actor Main{new(){var a:int=1;if 1{var b:int=2;}else{var b:int=3;}}be b(c:int){var d:int=4;}}", 1, 0, 1, 5, 4);
    }

    private static void parts(int due, String step) {
        String text = "class A{var n:int;new(n:int){}fun ref f(n:int):int{return 0;}}"
            + "actor Main{var a:ref A;var n:int;new(){}be b(n:int,x:iso A){" + step + "}}";
        CHECKS.same("parts of " + step, CHECKS.built(text).program(3), due + 1);
    }

    private static void eachPartCounts() {
        parts(1, "1;");
        parts(1, "none;");
        parts(1, "this;");
        parts(1, "n;");
        parts(1, "consume x;");
        parts(1, "((1));");
        parts(2, "has(none);");
        parts(3, "swap(n,1);");
        parts(1, "new Main();");
        parts(2, "new A(1);");
        parts(2, "recover{give 1;};");
        parts(2, "this.n;");
        parts(4, "this.a.f(1);");
        parts(4, "this!b(1,none);");
        parts(3, "1+2;");
        parts(9, "1+2-3*4<5;");
        parts(3, "1==2;");
        parts(2, "n=1;");
        parts(3, "this.n=1;");
        parts(1, "var y:int=1;");
        parts(2, "if 1{tell 2;}");
    }

    private static void buildEndsWhatRan() {
        ActorHouse house = CHECKS.started("actor Main{var n:int;new(){tell 1;none;}be b(){}}", 10, 2);
        Checks.runAll(house);
        house.show(0, 0);
        CHECKS.same("letter ahead of build", house.letter(0), '0');
        Checks.write(house, "class B{new(){}}actor Main{new(){}}");
        CHECKS.same("letter stays while text is fed", house.letter(0), '0');
        CHECKS.same("told stays while text is fed", house.told(0, 0), 1);
        CHECKS.same("second build", house.build(), 2);
        nothingRuns(house);
        CHECKS.same("new program", house.program(0), 2);
        CHECKS.isTrue("start of the new program", house.start(1, 1));
        CHECKS.same("its kind", house.actor(0, 0), 1);
        CHECKS.same("build of no text", house.build(), -1);
        nothingRuns(house);
        CHECKS.same("no program then", house.program(0), -1);
        CHECKS.isFalse("no start then", house.start(10, 1));
    }

    private static void nothingRuns(ActorHouse house) {
        for (int what = 0; what < 8; what++) {
            CHECKS.same("world(" + what + ") behind build", house.world(what), 0);
        }
        CHECKS.same("told behind build", house.told(0, 0), 0);
        CHECKS.same("letter behind build", house.letter(0), 0);
        CHECKS.same("step behind build", house.step(0, 1), -1);
        CHECKS.same("actor behind build", house.actor(0, 0), -1);
        CHECKS.same("show behind build", house.show(0, 0), -1);
        CHECKS.same("peek behind build", house.peek(0, 0), -1);
    }

    private static void faultBehindProgram() {
        ActorHouse house = CHECKS.built("actor Main{new(){}}");
        Checks.write(house, "actor Main{new(){tell x;}}");
        CHECKS.same("a fault", house.build(), -1);
        CHECKS.same("fault(0)", house.fault(0), 3);
        CHECKS.same("fault(1)", house.fault(1), 22);
        CHECKS.same("no program", house.program(0), -1);
        CHECKS.same("the text is empty", house.end(1), -1);
        Checks.write(house, "actor Main{new(){}}");
        CHECKS.same("fault of the latest build", house.fault(0), 3);
        CHECKS.same("build again", house.build(), 1);
        CHECKS.same("no fault", house.fault(0), 0);
        CHECKS.same("no place", house.fault(1), -1);
    }

    private static void faultAsked() {
        ActorHouse house = CHECKS.built("actor Main{new(){}}");
        CHECKS.same("fault(2)", house.fault(2), -1);
        CHECKS.same("fault(-1)", house.fault(-1), -1);
        CHECKS.same("fault of the least int", house.fault(Integer.MIN_VALUE), -1);
        house.build();
        CHECKS.same("fault(0) of no text", house.fault(0), 1);
        CHECKS.same("fault(1) of no text", house.fault(1), 0);
        CHECKS.same("fault(2) of no text", house.fault(2), -1);
    }
}
