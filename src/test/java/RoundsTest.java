/** Promises 6 and 11: rule and rounds. */
public final class RoundsTest {
    private static final String IAE = "throws.IllegalArgumentException";
    private static final String ISE = "throws.IllegalStateException";
    private static final String ALL_LEAVES = "+0+1+2+3+4+5+6+7+8+9+x+yz";

    public static void main(String[] args) {
        rules();
        wrongRules();
        sixRules();
        howMany();
        matching();
        asBeforeTheRound();
        newNodesOnce();
        full();
        afterUniting();
        Script.end();
    }

    private static void rules() {
        Script.run("promise 6",
                "rule a=a -> 1", "text -> ", "rule +ab=+ba -> 2", "rule a=0 -> 3", "rule 0=1 -> 4",
                "rule +a+b+cx=^^^abca -> 5", "rule ------a=------x -> 6", "nodes -> 0");
    }

    private static void wrongRules() {
        wrongRule("", 0);
        wrongRule("a", 1);
        wrongRule("a=", 2);
        wrongRule("=a", 0);
        wrongRule("a=b", 2);
        wrongRule("+ab=*c", 5);
        wrongRule("x=a", 2);
        wrongRule("d=d", 0);
        wrongRule("a=aa", 3);
        wrongRule("a=a=a", 3);
        wrongRule("+a=a", 2);
        wrongRule("aa=a", 1);
        wrongRule("-------a=a", 7);
        wrongRule("-------", 7);
        wrongRule("-------=", 7);
        wrongRule("++++++abcabcabc=a", 7);
        wrongRule("a=-------a", 9);
        wrongRule("a=-------", 9);
        wrongRule("a=-------b", 9);
        wrongRule("a=-----b-a", 7);
        wrongRule("+++abca=+++abcca", 15);
        wrongRule("+++abcaa=a", 7);
        wrongRule("+A", 1);
    }

    private static void wrongRule(String text, int place) {
        String argument = text.isEmpty() ? "." : text;
        Script.run("promise 6, none", "rule " + argument + " -> " + IAE, "place -> " + place,
                "text -> " + text, "wipe -> " + text.length(), "rule a=a -> 1");
    }

    private static void sixRules() {
        Script.run("promise 6, six",
                "rule a=a -> 1", "rule a=a -> 2", "rule a=a -> 3", "rule a=a -> 4", "rule a=a -> 5",
                "rule a=a -> 6", "rule a=0 -> " + ISE, "text -> a=0", "place -> -1",
                "rule b -> " + IAE, "place -> 3", "wipe -> 4",
                "add x -> 1", "rounds 1 -> 0", "nodes -> 1");
    }

    private static void howMany() {
        Script.run("promise 11",
                "add x -> 1", "rule a=-+a0 -> 1",
                "rounds -1 -> " + IAE, "rounds 21 -> " + IAE, "rounds 2147483647 -> " + IAE,
                "rounds -2147483648 -> " + IAE, "nodes -> 1",
                "rounds 0 -> 0", "nodes -> 1", "rounds 1 -> 1", "nodes -> 4", "classes -> 3",
                "rounds 2 -> 2");
        Script.run("promise 11, only unites",
                "rule x=y -> 1", "add +xy -> 3", "rounds 20 -> 1", "classes -> 2", "rounds 20 -> 0",
                "rule !x=y -> 2", "rounds 20 -> 0");
        Script.run("promise 11, adds what is equal already",
                "unite x=y -> 1", "rule x=--x -> 1", "rounds 5 -> 1", "nodes -> 4", "classes -> 2",
                "rounds 5 -> 0");
        Script.run("promise 11, the text stays",
                "rule +ab=a -> 1", "add +xy -> 3", "type q -> 1", "rounds 20 -> 1", "text -> q",
                "nodes -> 3", "classes -> 2", "place -> -1");
        Script.run("promise 11, several rounds",
                "rule +a0=a -> 1", "rule *a1=a -> 2", "rule -x=0 -> 3", "rule ^ab=^ba -> 4",
                "add *+y-x1 -> 6", "rounds 1 -> 1", "same -x=0 -> 1", "same y=+y-x -> 0",
                "rounds 20 -> 1", "same y=*+y-x1 -> 1", "same y=+y0 -> 1");
    }

    private static void matching() {
        Script.run("one variable twice",
                "rule +aa=0 -> 1", "add +xy -> 3", "rounds 9 -> 0", "unite x=y -> 2",
                "rounds 9 -> 1", "same 0=+xy -> 1", "nodes -> 4");
        Script.run("a variable is any class",
                "rule a=!a -> 1", "add +xy -> 3", "rounds 20 -> 1", "nodes -> 6", "classes -> 3",
                "same !!!x=x -> 1");
        Script.run("deep first sides",
                "rule *+ab+ac=*a+bc -> 1", "add *+xy+xz -> 6", "add *+xy+yz -> 8", "rounds 1 -> 1",
                "nodes -> 9", "same *+xy+xz=*x+yz -> 1", "same *+xy+yz=*x+yz -> 0");
        Script.run("all nodes of a class",
                "rule -+ab=*ab -> 1", "unite +xy=+zx -> 4", "unite ^xy=+xy -> 4", "add -+xy -> 7",
                "rounds 1 -> 1", "nodes -> 9", "same *xy=*zx -> 1", "same *xy=-^xy -> 1");
        Script.run("leaves of a first side",
                "rule *a0=0 -> 1", "add *x0 -> 3", "add *0y -> 5", "rounds 3 -> 1",
                "same *x0=0 -> 1", "same *0y=0 -> 0", "unite y=0 -> 3", "rounds 3 -> 1",
                "same *0y=0 -> 1");
        Script.run("a first side of no variable",
                "rule +xy=z -> 1", "add x -> 1", "rounds 3 -> 0", "add +xy -> 3", "rounds 3 -> 1",
                "same z=+xy -> 1");
        Script.run("a variable only in the first side",
                "rule *ab=b -> 1", "add *x*yz -> 5", "rounds 20 -> 1", "same *x*yz=z -> 1",
                "classes -> 3");
        Script.run("three variables",
                "rule ++abc=+a+bc -> 1", "add ++xyz -> 5", "rounds 9 -> 1", "nodes -> 7",
                "same ++xyz=+x+yz -> 1", "same +yz=+yz -> 1");
    }

    private static void asBeforeTheRound() {
        // +y0 comes to be in the round in which no rule sees it yet.
        Script.run("new nodes fit a round later",
                "rule -a=+a0 -> 1", "rule +ab=*ab -> 2", "add -y -> 2", "rounds 1 -> 1",
                "nodes -> 4", "same *y0=*y0 -> -1", "rounds 1 -> 1", "nodes -> 5",
                "same *y0=-y -> 1");
        // x and y are equal only behind the round: +xy is not yet a sum of two equal ones.
        Script.run("classes are united behind the round",
                "rule x=y -> 1", "rule +aa=z -> 2", "add +xy -> 3", "rounds 1 -> 1",
                "same z=z -> -1", "rounds 1 -> 1", "same z=+xx -> 1");
        // Two new nodes for classes that the same round unites: one node behind it.
        Script.run("new nodes can be the same behind the round",
                "rule x=y -> 1", "rule a=!a -> 2", "add x -> 1", "add y -> 2",
                "rounds 1 -> 1", "nodes -> 3", "classes -> 1", "rounds 1 -> 0");
    }

    private static void newNodesOnce() {
        Script.run("equal new nodes once",
                "add " + ALL_LEAVES + " -> 25", "add " + "-".repeat(13) + "x -> 38",
                "rule x=*xy -> 1", "rule z=*xy -> 2", "rule y=**xyz -> 3",
                "rounds 1 -> 1", "nodes -> 40", "same x=z -> 1");
    }

    private static void full() {
        Script.run("promise 11, FULL",
                "add " + ALL_LEAVES + " -> 25", "add " + "-".repeat(14) + "x -> 39",
                "rule 0=1 -> 1", "rule x=*x*xy -> 2",
                "rounds 0 -> 0", "rounds 1 -> -2", "nodes -> 39", "classes -> 39", "same 0=1 -> 0",
                "same *xy=*xy -> -1", "rounds 20 -> -2", "unite 0=1 -> 38",
                "rounds 1 -> -2", "unite x=-x -> 24", "nodes -> 26", "rounds 20 -> 1",
                "nodes -> 28");
        Script.run("promise 11, FULL behind others",
                "add x -> 1", "rule a=-+a0 -> 1", "rounds 20 -> -2", "nodes -> 40");
        Script.run("promise 11, forty are not FULL",
                "add " + ALL_LEAVES + " -> 25", "add " + "-".repeat(14) + "x -> 39",
                "rule x=*xy -> 1", "rounds 20 -> 1", "nodes -> 40", "rounds 20 -> 0",
                "rule y=*xx -> 2", "rounds 20 -> -2", "nodes -> 40", "rounds 0 -> 0");
        // FULL counts before uniting, though uniting would leave fewer.
        Script.run("promise 11, FULL though uniting would make room",
                "add " + ALL_LEAVES + " -> 25", "rule a=!a -> 1", "rule a=0 -> 2",
                "rounds 1 -> -2", "nodes -> 25", "classes -> 25", "same 0=1 -> 0");
    }

    private static void afterUniting() {
        Script.run("uniting goes upwards in a round",
                "rule x=y -> 1", "add --x -> 3", "add --y -> 6", "rounds 20 -> 1",
                "nodes -> 4", "classes -> 3", "same --x=--y -> 1");
        Script.run("all become one",
                "rule a=0 -> 1", "add +-x*yz -> 6", "rounds 20 -> 1", "classes -> 1",
                "members 0 -> 7", "nodes -> 7");
    }
}
