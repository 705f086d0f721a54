/** Promises 7, 8, 9, 12, 13, 14: add, unite, same, nodes, classes, members. */
public final class NodesTest {
    private static final String IAE = "throws.IllegalArgumentException";
    private static final String ISE = "throws.IllegalStateException";
    /** 25 nodes: thirteen leaves and twelve sums. */
    private static final String ALL_LEAVES = "+0+1+2+3+4+5+6+7+8+9+x+yz";

    public static void main(String[] args) {
        adding();
        wrongTerms();
        uniting();
        congruence();
        looking();
        members();
        nodeLimit();
        uniteAtTheLimit();
        Script.end();
    }

    private static void adding() {
        Script.run("promise 7",
                "add x -> 1", "classes -> 1", "text -> ", "add x -> 1",
                "add +xx -> 2", "add *+xx+xx -> 3", "classes -> 3",
                "add -!x -> 5", "add ^xy -> 7", "add ^yx -> 8", "add +yx -> 9",
                "nodes -> 9", "classes -> 9",
                "add " + "-".repeat(38) + "x -> " + ISE, "nodes -> 9",
                "text -> " + "-".repeat(38) + "x", "classes -> 9");
    }

    private static void wrongTerms() {
        String[] wrong = {"a", "b", "c", "+x", "+xyz", "-", "=", "x=", "x=y", "A", "q", "(x)", "--",
            "+a0", "/xy", "w", "{", ":", "/"};
        for (String call : new String[] {"add", "members", "cost", "best"}) {
            for (String text : wrong) {
                Script.run("no term", call + " " + text + " -> " + IAE, "text -> " + text,
                        "nodes -> 0", "classes -> 0");
            }
            Script.run("no term", call + " . -> " + IAE, "place -> 0");
        }
        for (String call : new String[] {"unite", "same"}) {
            for (String text : new String[] {"x", "x=", "=x", "x=y=z", "a=x", "x=a", "+x=y", "xy=z",
                "x=yz", "=", "x==y", "x-y"}) {
                Script.run("not two terms", call + " " + text + " -> " + IAE, "text -> " + text,
                        "nodes -> 0", "classes -> 0");
            }
            Script.run("not two terms", call + " . -> " + IAE, "place -> 0");
        }
    }

    private static void uniting() {
        Script.run("promise 8",
                "unite x=y -> 1", "text -> ", "nodes -> 2", "unite x=y -> 1", "unite y=x -> 1",
                "unite z=z -> 2", "unite +xz=+yz -> 3", "nodes -> 4",
                "unite x=-x -> 3", "nodes -> 5", "same x=----y -> 1",
                "unite z=-z -> 3", "unite x=z -> 2", "nodes -> 5", "classes -> 2");
    }

    private static void congruence() {
        Script.run("promise 8, what is equal in its parts",
                "add --x -> 3", "add --y -> 6", "classes -> 6",
                "unite x=y -> 3", "nodes -> 4", "same --x=--y -> 1", "members --x -> 1");
        Script.run("promise 8, sides apart",
                "add +xy -> 3", "add +yx -> 4", "unite x=y -> 2", "nodes -> 3",
                "same +xy=+yx -> 1", "members +xx -> 1");
        Script.run("promise 8, upwards and on",
                "unite +x0=y -> 3", "unite +z0=0 -> 4", "classes -> 4", "nodes -> 6",
                "unite x=z -> 2", "nodes -> 5", "same y=0 -> 1", "same +xy=y -> 1");
        Script.run("promise 8, a circle",
                "add ---x -> 4", "unite x=---x -> 3", "nodes -> 4", "add -----x -> 4",
                "unite -----x=x -> 1", "nodes -> 2", "same -x=x -> 1", "members x -> 2");
        Script.run("signs stay apart",
                "add -x -> 2", "add !x -> 3", "add +xx -> 4", "add *xx -> 5", "add ^xx -> 6",
                "unite x=y -> 6", "nodes -> 7", "same -x=!y -> 0", "same +xx=*xx -> 0",
                "same ^xy=^yx -> 1");
    }

    private static void looking() {
        Script.run("promise 9",
                "add +xy -> 3", "same x=x -> 1", "text -> ", "same x=y -> 0", "same +xy=+xy -> 1",
                "same +xy=+yx -> -1", "same z=x -> -1", "same x=z -> -1", "same z=z -> -1",
                "text -> ", "nodes -> 3", "classes -> 3",
                "unite x=y -> 2", "same +xx=+yx -> 1", "same x=+xx -> 0", "nodes -> 3",
                "same x= -> " + IAE, "text -> x=", "same y -> 1");
    }

    private static void members() {
        Script.run("promise 14",
                "members x -> -1", "text -> ", "add +xy -> 3",
                "members x -> 1", "text -> ", "members +xy -> 1", "members +yx -> -1",
                "unite x=y -> 2", "members x -> 2", "unite x=+xy -> 1",
                "members y -> 3", "members +x+xx -> 3", "members -x -> -1", "nodes -> 3");
    }

    private static void nodeLimit() {
        Script.run("promise 7, forty",
                "add " + ALL_LEAVES + " -> 25", "add " + "-".repeat(15) + "x -> 40",
                "classes -> 40",
                "add -x -> 40", "add !x -> " + ISE, "text -> !x", "nodes -> 40", "classes -> 40",
                "wipe -> 2", "members !x -> -1", "add +0+1x -> " + ISE, "wipe -> 5",
                "place -> -1", "same +1x=+1x -> -1", "classes -> 40",
                "unite 0=1 -> 39", "nodes -> 40", "add !x -> " + ISE, "wipe -> 2",
                "unite x=-x -> 24", "nodes -> 26", "add !x -> 27");
        Script.run("promise 7, one too many of several",
                "add " + ALL_LEAVES + " -> 25", "add " + "-".repeat(13) + "x -> 38",
                "add !!!x -> " + ISE, "nodes -> 38", "classes -> 38", "wipe -> 4",
                "members !x -> -1", "add !!x -> 40");
    }

    private static void uniteAtTheLimit() {
        Script.run("promise 8, forty",
                "add " + ALL_LEAVES + " -> 25", "add " + "-".repeat(14) + "x -> 39",
                "unite !x=!y -> " + ISE, "text -> !x=!y", "nodes -> 39", "classes -> 39",
                "wipe -> 5", "same !x=!x -> -1", "unite !x=x -> 39", "nodes -> 40",
                "unite !y=x -> " + ISE, "wipe -> 4", "unite x=!y -> " + ISE, "wipe -> 4",
                "unite x=!y= -> " + IAE, "wipe -> 5", "classes -> 39",
                "unite x=!x -> 39", "unite x=y -> 38", "nodes -> 40");
    }
}
