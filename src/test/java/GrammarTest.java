/** Promises 4 (build) and 5 (fault): words, signs and the grammar, FAULT 1. */
public final class GrammarTest {
    private static final Checks CHECKS = new Checks();

    public static void main(String[] args) {
        words();
        kinds();
        methods();
        steps();
        expressions();
        missing();
        tooMany();
        tooDeep();
        longChains();
        CHECKS.finish();
    }

    private static String body(String steps) {
        return "actor Main{new(){" + steps + "}}";
    }

    private static void words() {
        CHECKS.good("actor Main{new(){tell 999999999;tell 000000001;}}");
        CHECKS.bad(1, body("tell ^1234567890;"));
        CHECKS.good("actor Main{var abcdefgh:int;var a1234567:int;new(){}}");
        CHECKS.bad(1, "actor Main{var ^abcdefghi:int;new(){}}");
        CHECKS.bad(1, "actor Main{var ^aBc:int;new(){}}");
        CHECKS.bad(1, "actor Main{var ^1a:int;new(){}}");
        CHECKS.bad(1, "actor Main{var ^a_b:int;new(){}}".replace("^a_", "a^_"));
        CHECKS.good("actor Main{new(){}}class Abcdefgh{new(){}}class AbcDEF12{new(){}}class A{new(){}}");
        CHECKS.bad(1, "actor Main{new(){}}class ^Abcdefghi{new(){}}");
        CHECKS.bad(1, "actor Main{new(){}}class ^a{new(){}}");
        CHECKS.bad(1, "actor Main{var ^A:int;new(){}}");
        CHECKS.good("  actor   Main  {  new  (  )  {  }  }  ");
        CHECKS.bad(1, "actor^\tMain{new(){}}");
        CHECKS.bad(1, "actor^\nMain{new(){}}");
        CHECKS.bad(1, "^actorMain{new(){}}");
        CHECKS.good("actor Main{var az09:int;var zz:int;new(){}}class AZaz09{new(){}}class Zz{new(){}}");
        for (char c : "@[`{/:^_\u00e0\u00ff\u0000\u007f".toCharArray()) {
            if (c != '^' && c != ':' && c != '{') {
                CHECKS.bad(1, "actor Main{var a^" + c + ":int;new(){}}");
            }
        }
        CHECKS.bad(1, "actor Main{new(){tell 1==^");
        CHECKS.bad(1, "actor Main{new(){a=^");
        CHECKS.bad(1, body("tell 1 ^/ 1;"));
        CHECKS.good(body("tell 1==1;"));
        CHECKS.bad(1, body("tell 1= ^= 1;").replace("= ^=", "^= ="));
        CHECKS.bad(1, body("tell 1==^=1;"));
        String[] reserved = ("class actor new fun be var if else while return tell give has swap none this consume "
            + "recover iso trn ref val box int").split(" ");
        for (String word : reserved) {
            CHECKS.bad(1, "actor Main{var ^" + word + ":int;new(){}}");
            CHECKS.good("actor Main{var " + word.charAt(0) + word + ":int;new(){}}".replace("^", ""));
        }
    }

    private static void kinds() {
        CHECKS.bad(1, "^");
        CHECKS.bad(1, "   ^");
        CHECKS.bad(1, "^Main");
        CHECKS.bad(1, "^{}");
        CHECKS.bad(1, "actor Main{new(){}}^}");
        CHECKS.bad(1, "actor Main{new(){}} ^x");
        CHECKS.bad(1, "actor Main{^}");
        CHECKS.bad(1, "actor Main{new(){}^new(){}}");
        CHECKS.bad(1, "actor Main{new(){}^var a:int;}");
        CHECKS.bad(1, "actor Main{^fun ref f(){}new(){}}");
        CHECKS.bad(1, "actor Main{var a^;new(){}}");
        CHECKS.bad(1, "actor Main{var a:^;new(){}}");
        CHECKS.bad(1, "actor Main{var a:ref^;new(){}}");
        CHECKS.bad(1, "actor Main{var a:ref ^int;new(){}}");
        CHECKS.bad(1, "actor Main{var a:ref ^ref A;new(){}}");
        CHECKS.bad(1, "actor Main{var a:int^,b:int;new(){}}");
        CHECKS.bad(1, "actor Main{var a:int ^new(){}}");
        CHECKS.bad(1, "actor Main{new^{}}");
        CHECKS.bad(1, "actor Main{new()^;}");
        CHECKS.bad(1, "actor Main{new()^:int{}}");
    }

    private static void methods() {
        CHECKS.good("actor Main{new(){}fun ref f(){}be b(){}fun ref g(a:int,b:Main):Main{return b;}be c(x:Main){}}");
        CHECKS.bad(1, "class A{new(){}^be b(){}}actor Main{new(){}}");
        CHECKS.bad(1, "actor Main{new(){}fun ^f(){}}");
        CHECKS.bad(1, "actor Main{new(){}be ^ref f(){}}");
        CHECKS.bad(1, "actor Main{new(){}be f()^:int{}}");
        CHECKS.bad(1, "actor Main{new(){}fun ref ^F(){}}");
        CHECKS.bad(1, "actor Main{new(){}fun ref f(^,){}}");
        CHECKS.bad(1, "actor Main{new(){}fun ref f(a:int,^){}}");
        CHECKS.bad(1, "actor Main{new(){}fun ref f(a:int ^b:int){}}");
        CHECKS.bad(1, "actor Main{new(){}fun ref f(a^){}}");
        CHECKS.bad(1, "actor Main{new(){}fun ref f():^{}}");
        CHECKS.bad(1, "actor Main{new(){}fun ref f()^;}");
    }

    private static void steps() {
        CHECKS.good(body("var a:int=1;if a{}if a{}else{}while 0{}tell a;a=2;a;(a)=3;"));
        CHECKS.bad(1, body("^;"));
        CHECKS.bad(1, body("^{}"));
        CHECKS.bad(1, body("var a:int^;"));
        CHECKS.bad(1, body("var a^=1;"));
        CHECKS.bad(1, body("var ^1:int=1;"));
        CHECKS.bad(1, body("var a:int=1^}").replace("}}}", "}}"));
        CHECKS.bad(1, body("if ^{}"));
        CHECKS.bad(1, body("if 1^;"));
        CHECKS.bad(1, body("if 1{}else ^if 1{}"));
        CHECKS.bad(1, body("^else{}"));
        CHECKS.bad(1, body("while 1{}^else{}"));
        CHECKS.bad(1, body("tell^;"));
        CHECKS.bad(1, body("return^;"));
        CHECKS.bad(1, body("give^;"));
        CHECKS.bad(1, body("tell 1 ^tell 2;"));
        CHECKS.bad(1, body("a=1^=2;"));
        CHECKS.bad(1, body("a=^;"));
    }

    private static void expressions() {
        CHECKS.good(body("tell (1+2)*3-(4)<5==6;"));
        CHECKS.bad(1, body("tell ^-1;"));
        CHECKS.bad(1, body("tell 1+^;"));
        CHECKS.bad(1, body("tell (1^;"));
        CHECKS.bad(1, body("tell (^);"));
        CHECKS.bad(1, body("tell 1^);"));
        CHECKS.bad(1, body("tell 1 ^2;"));
        CHECKS.bad(1, body("tell ^Main;"));
        CHECKS.bad(1, body("tell ^int;"));
        CHECKS.bad(1, body("this.^new();"));
        CHECKS.bad(1, body("this.^1;"));
        CHECKS.bad(1, body("this!b^;"));
        CHECKS.bad(1, body("this!^(1);"));
        CHECKS.bad(1, body("this.f(1^;"));
        CHECKS.bad(1, body("this.f(1,^);"));
        CHECKS.bad(1, body("this.f(^,1);"));
        CHECKS.bad(1, body("consume ^this;"));
        CHECKS.bad(1, body("consume ^(a);"));
        CHECKS.bad(1, body("tell has ^1;"));
        CHECKS.bad(1, body("tell has(^);"));
        CHECKS.bad(1, body("tell has(none^,none);"));
        CHECKS.bad(1, body("swap(a^);"));
        CHECKS.bad(1, body("swap(a,1^,2);"));
        CHECKS.bad(1, body("new ^();"));
        CHECKS.bad(1, body("new ^int();"));
        CHECKS.bad(1, body("new Main^;"));
        CHECKS.bad(1, body("new ref ^ref A();"));
        CHECKS.bad(1, body("recover ^1;"));
        CHECKS.bad(1, body("recover{give 1;}^"));
        CHECKS.bad(1, body("f^();"));
    }

    private static void missing() {
        String whole = "actor Main{var a:int;new(){if 1{tell (2);}else{this.f(1,2);}}fun ref f(a:int,b:int):int{return a;}}";
        CHECKS.good(whole);
        for (int length = 0; length < whole.length(); length++) {
            String cut = whole.substring(0, length);
            char last = length == 0 ? ' ' : whole.charAt(length - 1);
            char next = whole.charAt(length);
            boolean inWord = Character.isLetterOrDigit(last) && Character.isLetterOrDigit(next);
            if (!inWord) {
                CHECKS.bad(1, cut + "^");
            }
        }
        CHECKS.bad(1, "actor Main{new(){}  ^");
        CHECKS.bad(1, "actor Main{new(){^actor");
    }

    private static void tooMany() {
        String seven = Checks.repeat("actor A{new(){}}", 0);
        for (int i = 1; i <= 7; i++) {
            seven += "class A" + i + "{new(){}}";
        }
        CHECKS.good(seven + "actor Main{new(){}}");
        CHECKS.bad(1, seven + "actor Main{new(){}}^class B{new(){}}");
        CHECKS.bad(1, seven + "actor Main{new(){}}^actor B{new(){}}");
        String eight = "";
        String funs = "";
        for (int i = 1; i <= 8; i++) {
            eight += "var a" + i + ":int;";
            funs += i % 2 == 0 ? "be b" + i + "(){}" : "fun ref b" + i + "(){}";
        }
        CHECKS.good("actor Main{" + eight + "new(){}" + funs + "}");
        CHECKS.bad(1, "actor Main{" + eight + "^var x:int;new(){}}");
        CHECKS.bad(1, "actor Main{new(){}" + funs + "^be x(){}}");
        CHECKS.bad(1, "actor Main{new(){}" + funs + "^fun ref x(){}}");
        CHECKS.good("actor Main{new(){}be f(a:int,b:int,c:int,d:int,e:int,f:int){this!f(1,2,3,4,5,6);}}");
        CHECKS.bad(1, "actor Main{new(){}be f(a:int,b:int,c:int,d:int,e:int,f:int,^g:int){}}");
        CHECKS.bad(1, "actor Main{new(){}be f(a:int){this!f(1,2,3,4,5,6,^7);}}");
        CHECKS.bad(1, "actor Main{new(){new Main(1,2,3,4,5,6,^none);}}");
        String vars = "";
        for (int i = 1; i <= 16; i++) {
            vars += "var v" + i + ":int=1;";
        }
        CHECKS.good(body(vars) + "class B{new(){" + vars + "}}");
        CHECKS.bad(1, body(vars + "var ^w:int=1;"));
        CHECKS.bad(1, body(vars + "if 1{tell recover{var ^w:int=1;give w;};}"));
        String ten = vars.substring(0, vars.indexOf("var v11"));
        String six = "(a:int,b:int,c:int,d:int,e:int,f:int)";
        CHECKS.good("actor Main{new(){}be f" + six + "{" + ten + "}}");
        CHECKS.bad(1, "actor Main{new(){}be f" + six + "{" + ten + "var ^w:int=1;}}");
        CHECKS.bad(1, "actor Main{new(){}be f" + six + "{if 1{" + ten + "}else{var ^w:int=1;}}}");
    }

    private static void tooDeep() {
        CHECKS.good(body("tell " + Checks.repeat("(", 22) + "1" + Checks.repeat(")", 22) + ";"));
        CHECKS.bad(1, body("tell " + Checks.repeat("(", 23) + "^1" + Checks.repeat(")", 23) + ";"));
        CHECKS.bad(1, body("tell " + Checks.repeat("(", 23) + "^(1" + Checks.repeat(")", 24) + ";"));
        CHECKS.good(body(Checks.repeat("if 1{", 22) + "tell 1;" + Checks.repeat("}", 22)));
        CHECKS.good(body(Checks.repeat("if 1{", 22) + "while 1{}" + Checks.repeat("}", 22)));
        CHECKS.bad(1, body(Checks.repeat("if 1{", 23) + "tell ^1;" + Checks.repeat("}", 23)));
        CHECKS.good(body(Checks.repeat("while 0{", 23) + Checks.repeat("}", 23)));
        CHECKS.bad(1, body(Checks.repeat("if 1{", 23) + "if ^1{}" + Checks.repeat("}", 23)));
        CHECKS.good(body("tell " + Checks.repeat("recover{give ", 11) + "1" + Checks.repeat(";}", 11) + ";"));
        CHECKS.bad(1, body("tell " + Checks.repeat("recover{give ", 11) + "(^1)" + Checks.repeat(";}", 11) + ";"));
        CHECKS.bad(1, body("tell (" + Checks.repeat("recover{give ", 10) + "recover{give ^1;}" + Checks.repeat(";}", 10) + ");"));
        CHECKS.bad(1, body("tell " + Checks.repeat("(", 22) + "recover^{give 1;}" + Checks.repeat(")", 22) + ";"));
        CHECKS.bad(1, body("tell " + Checks.repeat("has(", 23) + "^none" + Checks.repeat(")", 23) + ";"));
        CHECKS.bad(1, body("tell " + Checks.repeat("(", 22) + "swap(^a,1)" + Checks.repeat(")", 22) + ";"));
        CHECKS.bad(1, body("tell " + Checks.repeat("(", 22) + "this.f(^1)" + Checks.repeat(")", 22) + ";"));
        CHECKS.bad(3, body("tell " + Checks.repeat("(", 22) + "this.^f()" + Checks.repeat(")", 22) + ";"));
        String open = Checks.repeat("(", 21);
        String close = Checks.repeat(")", 21);
        String made = "class A{var n:int;new(n:int){}fun ref f(n:int):int{return n;}}actor Main{var a:ref A;var n:int;new(){";
        CHECKS.good(made + open + "new A(1)" + close + ";}}");
        CHECKS.bad(1, made + open + "new A((^1))" + close + ";}}");
        CHECKS.good(made + open + "this.a.f(1)" + close + ";}}");
        CHECKS.bad(1, made + open + "this.a.f((^1))" + close + ";}}");
        CHECKS.good(made + open + "swap(this.n,1)" + close + ";}}");
        CHECKS.bad(1, made + open + "swap(this.n,(^1))" + close + ";}}");
        CHECKS.bad(1, made + open + "swap((^this.n),1)" + close + ";}}");
        CHECKS.good(made + open + "has(none)" + close + ";}}");
        CHECKS.good(made + "(" + open + "this.n" + close + ")=1;}}");
        CHECKS.bad(1, made + "((" + open + "^this.n" + close + "))=1;}}");
        CHECKS.good(made + "this.n=(" + open + "1" + close + ");}}");
        CHECKS.bad(1, made + "this.n=((" + open + "^1" + close + "));}}");
        CHECKS.good(made + "var x:int=(" + open + "1" + close + ");}}");
        CHECKS.bad(1, made + "var x:int=((" + open + "^1" + close + "));}}");
        String returned = "}fun ref f():int{return (";
        CHECKS.good(made + returned + open + "1" + close + ");}}");
        CHECKS.bad(1, made + returned + "(" + open + "^1" + close + "));}}");
        CHECKS.good(body(Checks.repeat("if 1{}else{", 23) + Checks.repeat("}", 23)));
        CHECKS.bad(1, body(Checks.repeat("if 1{}else{", 23) + "^x;" + Checks.repeat("}", 23)));
        CHECKS.bad(1, body(Checks.repeat("if 1{", 22) + "if 1{}else{^x;}" + Checks.repeat("}", 22)));
        CHECKS.bad(1, body("tell " + Checks.repeat("(", 22) + "new Main(^1)" + Checks.repeat(")", 22) + ";"));
    }

    private static void longChains() {
        CHECKS.good(body("tell 1" + Checks.repeat("+1", 950) + ";"));
        CHECKS.good("class A{var a:ref A;new(){}}actor Main{var a:ref A;new(){this.a" + Checks.repeat(".a", 950) + ";}}");
        CHECKS.good("class A{new(){}fun ref f():ref A{return this;}}actor Main{var a:ref A;new(){this.a"
            + Checks.repeat(".f()", 450) + ";}}");
    }
}
