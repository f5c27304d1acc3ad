/** The bounds of the grammar, sentence by sentence: promises 4 and 5, FAULT 1. */
public final class GrammarBoundsTest {
    private static final Checks CHECKS = new Checks();
    private static final String MAIN = "actor Main{new(){}}";

    // What the deep texts below use.
    private static final String DEEP = "class A{new(n:int){}}actor W{new(n:int){}}actor Main{var n:int;new(){";
    private static final String REST = "}fun ref f(n:int):int{return n;}fun ref g(n:int,m:int):int{return n;}be b(n:int){}}";

    public static void main(String[] args) {
        kinds();
        fields();
        methods();
        bes();
        parameters();
        argumentsOfCalls();
        argumentsOfMessages();
        argumentsOfNew();
        tooManyArguments();
        locals();
        localsOfAllBlocks();
        localsOfEachBody();
        bodyAndSteps();
        assignmentsDeep();
        closingsDeep();
        parentheses();
        argumentsDeep();
        hasAndSwapDeep();
        recoverDeep();
        blocksDeep();
        notDeeper();
        missing();
        placesOfTooMany();
        CHECKS.finish();
    }

    /** A row of parts, numbered from 1, with something between. */
    private static String row(String between, int count, String ahead, String behind) {
        StringBuilder text = new StringBuilder();
        for (int i = 1; i <= count; i++) {
            text.append(i == 1 ? "" : between).append(ahead).append(i).append(behind);
        }
        return text.toString();
    }

    /** The same, with a mark ahead of the part that would be one too many, or at the end if there is none. */
    private static String marked(String between, int count, int most, String ahead, String behind) {
        if (count <= most) {
            return row(between, count, ahead, behind) + "^";
        }
        StringBuilder text = new StringBuilder(row(between, most, ahead, behind)).append(between).append("^");
        for (int i = most + 1; i <= count; i++) {
            text.append(i == most + 1 ? "" : between).append(ahead).append(i).append(behind);
        }
        return text.toString();
    }

    private static void kinds() {
        CHECKS.sentence("PROGRAM: KINDS, 1 to 8.");
        CHECKS.bad(1, "^");
        CHECKS.bad(1, "  ^");
        for (int count = 1; count <= 10; count++) {
            for (String word : new String[] {"class ", "actor "}) {
                String text = MAIN + marked("", count - 1, 7, word + "K", "{new(){}}");
                CHECKS.verdict(count <= 8, 1, text);
                ActorHouse house = new ActorHouse();
                Checks.write(house, text.replace("^", ""));
                CHECKS.same("build() of " + count + " kinds", house.build(), count <= 8 ? count : -1);
            }
        }
        CHECKS.bad(1, MAIN + row("", 7, "class K", "{new(){}}") + "^x");
    }

    private static void fields() {
        CHECKS.sentence("FIELDS (at most 8)");
        for (int count = 0; count <= 10; count++) {
            String fields = marked("", count, 8, "var f", ":int;");
            CHECKS.verdict(count <= 8, 1, "actor Main{" + fields + "new(){}}");
            CHECKS.verdict(count <= 8, 1, MAIN + "class K{" + fields + "new(){}}");
        }
        String eight = row("", 8, "var f", ":int;");
        CHECKS.good("actor Main{" + eight + "new(){}}class K{" + eight + "new(){}}actor L{" + eight + "new(){}}");
        CHECKS.same("fields in all", CHECKS.built("actor Main{" + eight + "new(){}}class K{" + eight + "new(){}}").program(1), 16);
    }

    private static void methods() {
        CHECKS.sentence("METHODS (at most 8)");
        for (int count = 0; count <= 10; count++) {
            CHECKS.verdict(count <= 8, 1, "actor Main{new(){}" + marked("", count, 8, "be m", "(){}") + "}");
            CHECKS.verdict(count <= 8, 1, "actor Main{new(){}" + marked("", count, 8, "fun ref m", "(){}") + "}");
            CHECKS.verdict(count <= 8, 1, MAIN + "class K{new(){}" + marked("", count, 8, "fun box m", "(){}") + "}");
        }
        String seven = row("", 7, "be m", "(){}");
        CHECKS.good("actor Main{new(){}" + seven + "fun ref x(){}}");
        CHECKS.bad(1, "actor Main{new(){}" + seven + "fun ref x(){}^be y(){}}");
        CHECKS.bad(1, "actor Main{new(){}" + seven + "be x(){}^fun ref y(){}}");
        String eight = row("", 8, "fun ref m", "(){}");
        CHECKS.good("actor Main{new(){}" + eight + "}class K{new(){}" + eight + "}");
        CHECKS.same("methods", CHECKS.built("actor Main{new(){}" + eight + "}class K{new(){}" + eight + "}").program(2), 16);
    }

    private static void bes() {
        CHECKS.sentence("METHOD: fun CAP NAME ( PARAMETERS ), perhaps : TYPE, BLOCK; of an actor also: be NAME ( PARAMETERS ) BLOCK.");
        CHECKS.good("actor Main{new(){}be m(){}}");
        CHECKS.bad(1, MAIN + "class K{new(){}^be m(){}}");
        CHECKS.bad(1, MAIN + "class K{new(){}fun ref m(){}^be x(){}}");
        CHECKS.bad(1, "actor Main{new(){}fun ^m(){}}");
        CHECKS.bad(1, "actor Main{new(){}be ^ref m(){}}");
        CHECKS.bad(1, "actor Main{new(){}be m()^:int{}}");
        CHECKS.bad(1, "actor Main{new()^:int{}}");
    }

    private static void parameters() {
        CHECKS.sentence("PARAMETERS: at most 6, NAME : TYPE, with commas between.");
        for (int count = 0; count <= 8; count++) {
            String list = "(" + marked(",", count, 6, "p", ":int") + ")";
            CHECKS.verdict(count <= 6, 1, MAIN + "class K{new" + list + "{}}");
            CHECKS.verdict(count <= 6, 1, MAIN + "actor K{new" + list + "{}}");
            CHECKS.verdict(count <= 6, 1, MAIN + "class K{new(){}fun iso m" + list + "{}}");
            CHECKS.verdict(count <= 6, 1, MAIN + "class K{new(){}fun ref m" + list + ":int{return 1;}}");
            CHECKS.verdict(count <= 6, 1, "actor Main{new(){}fun ref m" + list + "{}}");
            CHECKS.verdict(count <= 6, 1, "actor Main{new(){}be m" + list + "{}}");
        }
        CHECKS.bad(1, "actor Main{new(){}be m(^,p:int){}}");
        CHECKS.bad(1, "actor Main{new(){}be m(p:int,^){}}");
        CHECKS.bad(1, "actor Main{new(){}be m(p:int,^,q:int){}}");
        CHECKS.bad(1, "actor Main{new(){}be m(p:int ^q:int){}}");
        CHECKS.bad(1, "actor Main{new(){}be m(" + row(",", 6, "p", ":int") + ",^){}}");
    }

    private static void argumentsOfCalls() {
        CHECKS.sentence("ARGUMENTS: at most 6 EXPRS with commas between.");
        for (int count = 0; count <= 8; count++) {
            String method = "fun ref m(" + row(",", Math.min(count, 6), "p", ":int") + "){}}";
            CHECKS.verdict(count <= 6, 1, "actor Main{new(){this.m(" + marked(",", count, 6, "", "") + ");}" + method);
        }
    }

    private static void argumentsOfMessages() {
        CHECKS.sentence("ARGUMENTS: at most 6 EXPRS with commas between.");
        for (int count = 0; count <= 8; count++) {
            String method = "be m(" + row(",", Math.min(count, 6), "p", ":int") + "){}}";
            CHECKS.verdict(count <= 6, 1, "actor Main{new(){this!m(" + marked(",", count, 6, "", "") + ");}" + method);
        }
    }

    private static void argumentsOfNew() {
        CHECKS.sentence("ARGUMENTS: at most 6 EXPRS with commas between.");
        for (int count = 0; count <= 8; count++) {
            String maker = "K{new(" + row(",", Math.min(count, 6), "p", ":int") + "){}}";
            String body = "actor Main{new(){new K(" + marked(",", count, 6, "", "") + ");}}";
            CHECKS.verdict(count <= 6, 1, "class " + maker + body);
            CHECKS.verdict(count <= 6, 1, "actor " + maker + body);
            CHECKS.verdict(count <= 6, 1, "class " + maker + body.replace("new K", "new val K"));
        }
    }

    private static void tooManyArguments() {
        CHECKS.sentence("an argument at its beginning");
        String six = "actor Main{new(){this!m(1,2,3,4,5,6,";
        CHECKS.bad(1, six + "^x.y(1)+2);}}");
        CHECKS.bad(1, six + "^none);}}");
        CHECKS.bad(1, six + "^);}}");
        CHECKS.bad(1, six + "^new Main());}}");
        CHECKS.bad(1, six + "^7,8);}}");
        CHECKS.bad(1, "actor Main{new(){this!m((1),(2),(3),(4),(5),(6),^7);}}");
        CHECKS.bad(1, "actor Main{new(){this!m(this.m(1,2,3,4,5,6,^7),2);}}");
    }

    private static void locals() {
        CHECKS.sentence("A body (the BLOCK of a MAKER or METHOD) has at most 16 parameters and vars together.");
        for (int parameters = 0; parameters <= 6; parameters++) {
            String list = "(" + row(",", parameters, "p", ":int") + ")";
            for (int all = 14; all <= 18; all++) {
                int vars = all - parameters;
                String steps = marked("", vars, 16 - parameters, "var v", ":int=1;").replace("^var ", "var ^");
                CHECKS.verdict(all <= 16, 1, MAIN + "class K{new" + list + "{" + steps + "}}");
                CHECKS.verdict(all <= 16, 1, "actor Main{new(){}be m" + list + "{" + steps + "}}");
                CHECKS.verdict(all <= 16, 1, "actor Main{new(){}fun ref m" + list + "{" + steps + "}}");
            }
        }
    }

    private static void localsOfAllBlocks() {
        CHECKS.sentence("A body (the BLOCK of a MAKER or METHOD) has at most 16 parameters and vars together.");
        String fifteen = row("", 15, "var v", ":int=1;");
        String[] blocks = {"if 1{@}", "if 1{}else{@}", "while 0{@}", "recover{@give 1;};", "if 1{while 0{if 1{@}}}",
            "tell recover{if 1{@}give 1;};"};
        for (String block : blocks) {
            CHECKS.good("actor Main{new(){" + fifteen + block.replace("@", "var w:int=1;") + "}}");
            CHECKS.bad(1, "actor Main{new(){" + fifteen + block.replace("@", "var w:int=1;var ^x:int=1;") + "}}");
            CHECKS.bad(1, "actor Main{new(){" + fifteen + block.replace("@", "var w:int=1;") + "var ^w:int=1;}}");
            CHECKS.good("actor Main{new(){" + block.replace("@", fifteen) + "var w:int=1;}}");
            CHECKS.bad(1, "actor Main{new(){" + block.replace("@", fifteen) + "var w:int=1;var ^x:int=1;}}");
        }
    }

    private static void localsOfEachBody() {
        CHECKS.sentence("A body (the BLOCK of a MAKER or METHOD) has at most 16 parameters and vars together.");
        String sixteen = row("", 16, "var v", ":int=1;");
        String fields = row("", 8, "var f", ":int;");
        CHECKS.good("actor Main{" + fields + "new(){" + sixteen + "}be m(){" + sixteen + "}fun ref n(){" + sixteen + "}}");
        ActorHouse house = CHECKS.built("actor Main{" + fields + "new(){" + sixteen + "}be m(){" + sixteen + "}}");
        CHECKS.same("vars of all bodies", house.program(4), 32);
    }

    /** So many BLOCKS around that the innermost one lies at a depth. */
    private static String blocks(int depth, String steps) {
        return DEEP + Checks.repeat("if 1{", depth - 1) + steps + Checks.repeat("}", depth - 1) + REST;
    }

    /** So many parentheses around that the innermost EXPR of a STEP lies at a depth. */
    private static String deep(int depth, String inner) {
        return Checks.repeat("(", depth - 2) + inner + Checks.repeat(")", depth - 2);
    }

    private static void bodyAndSteps() {
        CHECKS.sentence("EXPRS and BLOCKS lie at most 24 in one another (a body is 1, an EXPR of one of its STEPS 2");
        String[] steps = {"var x:int=^1;", "if ^1{}", "if ^1{}else{}", "while ^1{}", "tell ^1;", "^this.n=1;", "^1;", "^this;"};
        for (String step : steps) {
            for (int depth = 1; depth <= 24; depth++) {
                CHECKS.verdict(depth <= 23, 1, blocks(depth, step));
            }
        }
        CHECKS.good(blocks(22, "this!b(1);"));
        CHECKS.bad(1, blocks(23, "this!b(^1);"));
    }

    private static void assignmentsDeep() {
        CHECKS.sentence("EXPRS and BLOCKS lie at most 24 in one another");
        for (int depth = 22; depth <= 26; depth++) {
            String left = DEEP + deep(depth, "this.n") + "=1;" + REST;
            String right = DEEP + "this.n=" + deep(depth, "1") + ";" + REST;
            String var = DEEP + "var x:int=" + deep(depth, "1") + ";" + REST;
            for (String text : new String[] {left, right, var}) {
                int at = text.indexOf("(((") + 23;
                CHECKS.verdict(depth <= 24, 1, text.substring(0, at) + "^" + text.substring(at));
            }
        }
    }

    private static void closingsDeep() {
        CHECKS.sentence("EXPRS and BLOCKS lie at most 24 in one another");
        String head = "actor Main{new(){}fun ref f():int{return ";
        CHECKS.good(head + deep(24, "1") + ";}}");
        CHECKS.bad(1, head + deep(25, "^1") + ";}}");
        CHECKS.good(DEEP + "recover{give " + deep(22, "1") + ";};" + REST);
        CHECKS.bad(1, DEEP + "recover{give " + deep(23, "^1") + ";};" + REST);
    }

    private static void parentheses() {
        CHECKS.sentence("an EXPR in ( ), an argument, an EXPR of has and swap one more than the EXPR around");
        for (int depth = 2; depth <= 24; depth++) {
            CHECKS.good(DEEP + "tell " + deep(depth, "1") + ";" + REST);
        }
        CHECKS.bad(1, DEEP + "tell " + deep(25, "^1") + ";" + REST);
        CHECKS.bad(1, DEEP + "tell " + Checks.repeat("(", 23) + "^(1" + Checks.repeat(")", 24) + ";" + REST);
        CHECKS.bad(1, DEEP + "tell " + Checks.repeat("(", 23) + "^" + Checks.repeat("(", 100));
        CHECKS.bad(1, DEEP + "tell 1+" + deep(25, "^1") + ";" + REST);
        CHECKS.good(DEEP + "tell " + deep(24, "1") + "+" + deep(24, "1") + ";" + REST);
    }

    private static void argumentsDeep() {
        CHECKS.sentence("an EXPR in ( ), an argument, an EXPR of has and swap one more than the EXPR around");
        for (String head : new String[] {"this.f(", "this!b(", "new A(", "new W(", "new iso A("}) {
            CHECKS.good(DEEP + deep(22, head + "1)") + ";" + REST);
            CHECKS.good(DEEP + deep(23, head + "1)") + ";" + REST);
            CHECKS.bad(1, DEEP + deep(24, head + "^1)") + ";" + REST);
            CHECKS.bad(1, DEEP + deep(23, head + "(^1))") + ";" + REST);
            CHECKS.bad(1, DEEP + deep(24, head + "^(1))") + ";" + REST);
        }
        CHECKS.good(DEEP + deep(22, "this.g(1,(2))") + ";" + REST);
        CHECKS.bad(1, DEEP + deep(23, "this.g(1,(^2))") + ";" + REST);
        CHECKS.good("actor Main{new(){" + deep(24, "this.f()") + ";}fun ref f(){}}");
        CHECKS.good("actor Main{new(){" + deep(24, "new Main()") + ";}}");
    }

    private static void hasAndSwapDeep() {
        CHECKS.sentence("an EXPR in ( ), an argument, an EXPR of has and swap one more than the EXPR around");
        CHECKS.good(DEEP + deep(23, "has(none)") + ";" + REST);
        CHECKS.bad(1, DEEP + deep(24, "has(^none)") + ";" + REST);
        CHECKS.good(DEEP + deep(22, "has((none))") + ";" + REST);
        CHECKS.bad(1, DEEP + deep(23, "has((^none))") + ";" + REST);
        CHECKS.good(DEEP + deep(23, "swap(this.n,1)") + ";" + REST);
        CHECKS.bad(1, DEEP + deep(24, "swap(^this.n,1)") + ";" + REST);
        CHECKS.good(DEEP + deep(22, "swap((this.n),(1))") + ";" + REST);
        CHECKS.bad(1, DEEP + deep(23, "swap((^this.n),1)") + ";" + REST);
        CHECKS.bad(1, DEEP + deep(23, "swap(this.n,(^1))") + ";" + REST);
    }

    private static void recoverDeep() {
        CHECKS.sentence("so is the BLOCK of recover");
        CHECKS.good(DEEP + deep(22, "recover{give 1;}") + ";" + REST);
        CHECKS.bad(1, DEEP + deep(23, "recover{give ^1;}") + ";" + REST);
        CHECKS.bad(1, DEEP + deep(24, "recover^{give 1;}") + ";" + REST);
        CHECKS.bad(8, DEEP + deep(23, "recover{^}") + ";" + REST);
        CHECKS.bad(1, DEEP + deep(24, "recover^{}") + ";" + REST);
        CHECKS.good(DEEP + "tell " + Checks.repeat("recover{give ", 11) + "1" + Checks.repeat(";}", 11) + ";" + REST);
        CHECKS.bad(1, DEEP + "tell " + Checks.repeat("recover{give ", 11) + "recover^{give 1;}" + Checks.repeat(";}", 11) + ";" + REST);
    }

    private static void blocksDeep() {
        CHECKS.sentence("that of if and while one more than the BLOCK around");
        for (String head : new String[] {"if 1{", "if 1{}else{", "while 0{"}) {
            CHECKS.good(DEEP + Checks.repeat(head, 22) + "tell 1;" + Checks.repeat("}", 22) + REST);
            CHECKS.bad(1, DEEP + Checks.repeat(head, 23) + "tell ^1;" + Checks.repeat("}", 23) + REST);
            CHECKS.good(DEEP + Checks.repeat(head, 23) + Checks.repeat("}", 23) + REST);
            String beyond = head.replace("1", "^1").replace("0", "^0");
            CHECKS.bad(1, DEEP + Checks.repeat(head, 23) + beyond + Checks.repeat("}", 24) + REST);
        }
        CHECKS.good(DEEP + "recover{" + Checks.repeat("if 1{", 21) + Checks.repeat("}", 21) + "give 1;};" + REST);
        CHECKS.bad(1, DEEP + "recover{" + Checks.repeat("if 1{", 21) + "if ^1{}" + Checks.repeat("}", 21) + "give 1;};" + REST);
    }

    /** What lies side by side, or one behind the other, is not deeper. */
    private static void notDeeper() {
        CHECKS.sentence("EXPRS and BLOCKS lie at most 24 in one another");
        CHECKS.good(DEEP + "tell 1" + Checks.repeat("+1", 100) + ";" + REST);
        CHECKS.good(DEEP + "tell (1)" + Checks.repeat("+(1)", 100) + ";" + REST);
        CHECKS.good(DEEP + Checks.repeat("if 1{}", 100) + REST);
        CHECKS.good(DEEP + Checks.repeat("tell (1);", 100) + REST);
        CHECKS.good("class A{var a:ref A;new(){}fun ref f(a:ref A):ref A{return a;}}actor Main{var a:ref A;new(){this.a"
            + Checks.repeat(".a", 50) + Checks.repeat(".f(none)", 50) + ";}}");
    }

    private static void missing() {
        CHECKS.sentence("the text's length, if something is missing at its end");
        String[] parts = ("actor Main { var n : int ; new ( ) { this . n = ( 1 + 2 ) == 6 ; this ! b ( 7 , 8 ) ; if has ( none ) { } "
            + "else { while 0 { } } recover { give consume x ; } ; new iso K ( ) ; swap ( a , 1 ) ; } fun ref f ( ) : val K { return x ; } "
            + "be b ( x : int , y : int ) { var z : int = 1 ; } }").split(" ");
        StringBuilder text = new StringBuilder();
        for (String part : parts) {
            CHECKS.bad(1, text + "^");
            CHECKS.bad(1, text + "   ^");
            text.append(text.length() == 0 ? "" : " ").append(part);
        }
    }

    private static void placesOfTooMany() {
        CHECKS.sentence("(of too many: a KIND at class or actor, a FIELD at var, a METHOD at fun or be, a parameter or var at its NAME, "
            + "an argument at its beginning)");
        CHECKS.bad(1, MAIN + " " + row(" ", 7, "class K", "{new(){}}") + "  ^class X {new(){}}");
        CHECKS.bad(1, MAIN + " " + row(" ", 7, "class K", "{new(){}}") + "  ^actor X {new(){}}");
        CHECKS.bad(1, "actor Main{ " + row(" ", 8, "var f", ":int;") + "  ^var  x : int ; new(){}}");
        CHECKS.bad(1, "actor Main{ new(){} " + row(" ", 8, "be m", "(){}") + "  ^fun  ref  x(){}}");
        CHECKS.bad(1, "actor Main{ new(){} " + row(" ", 8, "be m", "(){}") + "  ^be  x(){}}");
        CHECKS.bad(1, "actor Main{ new(){} be m( " + row(" , ", 6, "p", ":int") + " ,  ^x : int ){}}");
        CHECKS.bad(1, "actor Main{ new(){ " + row(" ", 16, "var v", ":int=1;") + " var  ^x : int = 1;}}");
        CHECKS.bad(1, "actor Main{ new(){ this ! m( " + row(" , ", 6, "", "") + " ,  ^x ); }}");
    }
}
