/** The boundary cases of promises 7, 8, 9, 12, 13, 14: add, unite, same, nodes, classes, members. */
public final class NodeEdgesTest {
    private static final String IAE = "throws.IllegalArgumentException";
    private static final String ISE = "throws.IllegalStateException";
    private static final String SUM_7 = "++xx+xx";
    /** Seven nodes. */
    private static final String SUM_29 = "+" + "+" + SUM_7 + "+x+xx" + "+" + SUM_7 + SUM_7;

    public static void main(String[] args) {
        fortyByOneTerm();
        fortyByAnotherTerm();
        sharedPartsTakeNoRoom();
        addAtForty();
        refusedAddLeavesNothing();
        wrongTextAtForty();
        roomAgainAfterUniting();
        uniteUpToForty();
        refusedUniteLeavesNothing();
        uniteCountsBeforeUniting();
        uniteAtForty();
        uniteWhatIsOne();
        uniteTermAndPart();
        noTwoNodesTheSame();
        sidesOfSixty();
        sameAnswers();
        sameOnlyLooks();
        wrongTextStays();
        nodesAndClassesFromNoneToForty();
        membersFromNoneToMany();
        Script.end();
    }

    private static void fortyByOneTerm() {
        String forty = "-".repeat(39) + "x";
        Script.run("promise 7, forty by one term", "add " + forty + " -> 40", "text -> ",
                "nodes -> 40", "classes -> 40", "members " + forty + " -> 1");
        Script.run("promise 7, forty-one by one term", "add -" + forty + " !> " + ISE,
                "text -> -" + forty, "wipe -> 41", "nodes -> 0", "classes -> 0", "members x -> -1",
                "add " + forty + " -> 40");
        Script.run("promise 7, sixty by one term", "add " + "-".repeat(59) + "x !> " + ISE,
                "wipe -> 60", "members x -> -1", "add x -> 1");
    }

    private static void fortyByAnotherTerm() {
        for (int there = 1; there < 40; there++) {
            String first = "-".repeat(there - 1) + "x";
            String fits = "!".repeat(40 - there) + "x";
            Script.run("promise 7, forty by another term", "add " + first + " -> " + there,
                    "add !" + fits + " !> " + ISE, "wipe -> " + (fits.length() + 1),
                    "members !x -> -1", "add " + fits + " -> 40", "classes -> 40");
        }
    }

    private static void sharedPartsTakeNoRoom() {
        Script.run("promise 7, terms share their parts",
                "add " + SUM_29 + " -> 7", "add +" + SUM_29 + SUM_29 + " -> 8",
                "add -+" + SUM_29 + SUM_29 + " -> 9", "classes -> 9",
                "add " + "!".repeat(31) + "x -> 40", "add -+" + SUM_29 + SUM_29 + " -> 40");
    }

    private static void addAtForty() {
        Script.run("promise 7, at forty",
                "add " + "-".repeat(39) + "x -> 40", "add x -> 40", "add --x -> 40",
                "add " + "-".repeat(39) + "x -> 40", "add y !> " + ISE, "wipe -> 1",
                "add !x !> " + ISE, "wipe -> 2", "add +xx !> " + ISE, "wipe -> 3",
                "members y -> -1", "add x -> 40", "place -> -1");
    }

    private static void refusedAddLeavesNothing() {
        Script.run("promise 7, nothing is added",
                "add " + "-".repeat(37) + "x -> 38", "add +y!y !> " + ISE, "text -> +y!y",
                "add . !> " + ISE, "wipe -> 4", "members y -> -1", "members !y -> -1",
                "same x=y -> -1", "cost y -> -1", "best !y -> -1", "add !y -> 40",
                "members y -> 1", "same !y=y -> 0");
        // Nodes that were refused must not come back as what later ones are made of.
        Script.run("promise 7, other nodes later",
                "add " + "-".repeat(37) + "x -> 38", "add +y!y -> " + ISE, "wipe -> 4",
                "add !z -> 40", "same y=y -> -1", "members !z -> 1", "unite !z=z -> 39",
                "members z -> 2", "best !z -> 1", "text -> z");
    }

    private static void wrongTextAtForty() {
        Script.run("promise 7, no term at forty",
                "add " + "-".repeat(39) + "x -> 40", "add yy !> " + IAE, "place -> 1", "wipe -> 2",
                "add +y !> " + IAE, "place -> 2", "add z !> " + ISE, "place -> 2", "wipe -> 3",
                "unite y !> " + IAE, "place -> 1", "unite =z !> " + ISE, "place -> 1");
    }

    private static void roomAgainAfterUniting() {
        Script.run("promise 7, room again",
                "add " + "-".repeat(19) + "x -> 20", "add " + "-".repeat(19) + "y -> 40",
                "add z !> " + ISE, "wipe -> 1", "unite x=y -> 20", "nodes -> 21",
                "add " + "!".repeat(20) + "x !> " + ISE, "wipe -> 21",
                "add " + "!".repeat(19) + "y -> 40", "classes -> 39", "add z !> " + ISE);
    }

    private static void uniteUpToForty() {
        Script.run("promise 8, forty", "add " + "-".repeat(36) + "x -> 37", "unite y=!z -> 39",
                "text -> ", "nodes -> 40", "same y=!z -> 1");
        Script.run("promise 8, forty by the first", "add " + "-".repeat(38) + "x -> 39",
                "unite y=-x -> 39", "nodes -> 40");
        Script.run("promise 8, forty by the second", "add " + "-".repeat(38) + "x -> 39",
                "unite -x=y -> 39", "nodes -> 40");
        Script.run("promise 8, forty at once",
                "unite " + "-".repeat(38) + "x=y -> 39", "nodes -> 40", "members y -> 2");
        Script.run("promise 8, forty-one at once",
                "unite " + "-".repeat(38) + "x=!y !> " + ISE, "wipe -> 42", "nodes -> 0",
                "unite x=y -> 1");
    }

    private static void refusedUniteLeavesNothing() {
        String[] texts = {"y=!z", "!z=y", "x=!!y", "!!y=x", "+yy=z", "y=+zz", "*xy=!z"};
        for (String text : texts) {
            Script.run("promise 8, nothing is added or united",
                    "add " + "-".repeat(37) + "x -> 38", "unite " + text + " !> " + ISE,
                    "text -> " + text, "unite . !> " + ISE, "wipe -> " + text.length(),
                    "place -> -1", "members y -> -1", "members z -> -1", "members x -> 1",
                    "same x=-x -> 0", "unite y=z -> 39", "nodes -> 40", "same y=x -> 0");
        }
    }

    private static void uniteCountsBeforeUniting() {
        // Behind the uniting !x and !y would be one node, but there is no room for both before it.
        Script.run("promise 8, both are added first",
                "add " + "-".repeat(37) + "x -> 38", "add y -> 39", "unite !x=!y !> " + ISE,
                "wipe -> 5", "unite x=y -> 38", "unite !x=!y -> 39", "nodes -> 40");
        Script.run("promise 8, both are added first, a circle",
                "add " + "-".repeat(38) + "x -> 39", "unite !x=!!x !> " + ISE, "wipe -> 6",
                "unite x=!x -> 39", "nodes -> 40", "unite !!!x=!!x -> 39", "nodes -> 40");
    }

    private static void uniteAtForty() {
        Script.run("promise 8, at forty",
                "add " + "-".repeat(38) + "x -> 39", "add y -> 40", "unite x=z !> " + ISE, "wipe -> 3",
                "unite z=z !> " + ISE, "wipe -> 3", "unite x=x -> 40", "nodes -> 40",
                "unite x=y -> 39", "nodes -> 40", "unite -x=y -> 1", "nodes -> 3");
    }

    private static void uniteWhatIsOne() {
        Script.run("promise 8, one class already",
                "unite x=x -> 1", "nodes -> 1", "unite x=y -> 1", "unite x=y -> 1", "unite y=x -> 1",
                "unite y=y -> 1", "nodes -> 2", "unite -x=-y -> 2", "nodes -> 3", "members x -> 2");
    }

    private static void uniteTermAndPart() {
        Script.run("promise 8, a term and its part", "unite x=-x -> 1", "nodes -> 2",
                "same x=---x -> 1", "unite --y=y -> 3", "nodes -> 5", "same -y=y -> 0",
                "same ---y=-y -> 1", "unite +zz=z -> 4", "same ++zzz=+z+zz -> 1", "nodes -> 7");
    }

    private static void noTwoNodesTheSame() {
        String minuses = "-".repeat(19);
        Script.run("no two nodes the same, far up",
                "add " + minuses + "x -> 20", "add " + minuses + "y -> 40", "classes -> 40",
                "unite x=y -> 20", "nodes -> 21", "members x -> 2", "members -x -> 1",
                "same " + minuses + "x=" + minuses + "y -> 1", "unite x=-y -> 1", "nodes -> 3");
        Script.run("no two nodes the same, sides", "add +xy -> 3", "add +yx -> 4", "add +xx -> 5",
                "add +yy -> 6", "unite y=x -> 2", "nodes -> 3", "members +xy -> 1");
        Script.run("nodes of other signs stay two", "add -x -> 2", "add !y -> 4", "add +xx -> 5",
                "add *yy -> 6", "add ^xy -> 7", "unite x=y -> 6", "nodes -> 7");
        Script.run("their classes are united, too", "unite -x=0 -> 2", "unite -y=1 -> 4",
                "unite !0=2 -> 5", "unite !1=3 -> 6", "nodes -> 10", "unite x=y -> 3", "nodes -> 8",
                "same 0=1 -> 1", "same 2=3 -> 1", "members 0 -> 3", "members 2 -> 3");
    }

    private static void sidesOfSixty() {
        String side = "-".repeat(28) + "x";
        Script.run("promises 8, 9, sixty characters",
                "unite " + side + "=!" + side + " -> 29", "nodes -> 30",
                "same " + side + "=!" + side + " -> 1", "text -> ",
                "type " + side + "=!" + side + " -> 60", "type y -> -1", "same . -> 1", "wipe -> 0");
    }

    private static void sameAnswers() {
        Script.run("promise 9, 1 or 0 or NONE",
                "same x=x -> -1", "add -x -> 2", "add y -> 3",
                "same x=x -> 1", "same -x=-x -> 1", "same x=y -> 0", "same x=-x -> 0",
                "same x=z -> -1", "same z=x -> -1", "same z=z -> -1", "same z=0 -> -1",
                "same !x=x -> -1", "same --x=x -> -1", "same -y=-x -> -1", "same -z=-x -> -1",
                "unite x=y -> 2", "same x=y -> 1", "same -y=-x -> 1", "same -y=x -> 0",
                "same --y=x -> -1", "unite x=-x -> 1", "same ---y=x -> 1");
    }

    private static void sameOnlyLooks() {
        Script.run("promise 9, it is looked only",
                "same +xy=+yx -> -1", "text -> ", "nodes -> 0", "classes -> 0", "add x -> 1",
                "same x=-x -> -1", "text -> ", "nodes -> 1", "same x=x -> 1", "text -> ",
                "add y -> 2", "same x=y -> 0", "text -> ", "classes -> 2", "same x=y -> 0");
        Script.run("promise 9, at forty", "add " + "-".repeat(39) + "x -> 40", "same x=y -> -1",
                "same !x=-x -> -1", "same " + "-".repeat(39) + "x=x -> 0", "members !x -> -1",
                "cost !x -> -1", "best !x -> -1", "nodes -> 40", "classes -> 40");
    }

    private static void wrongTextStays() {
        for (String call : new String[] {"add", "members", "cost", "best"}) {
            Script.run("no term, the text stays", "add +x0 -> 3", "unite x=y -> 3",
                    call + " +x !> " + IAE, call + " . !> " + IAE, call + " 00 !> " + IAE,
                    "text -> +x00", "wipe -> 4", call + " a !> " + IAE, "wipe -> 1",
                    call + " x=y !> " + IAE);
        }
        for (String call : new String[] {"unite", "same"}) {
            Script.run("not two terms, the text stays", "add +x0 -> 3", "add y -> 4",
                    call + " x !> " + IAE, call + " = !> " + IAE, call + " y= !> " + IAE,
                    "text -> x=y=", "wipe -> 4", "same x=y -> 0", call + " x=a !> " + IAE);
        }
    }

    private static void nodesAndClassesFromNoneToForty() {
        Script run = new Script("promises 12, 13");
        run.lines("nodes -> 0", "classes -> 0");
        for (int n = 1; n <= 40; n++) {
            run.lines("add " + "-".repeat(n - 1) + "x -> " + n, "nodes -> " + n, "classes -> " + n);
        }
        run.lines("nodes -> 40", "classes -> 40");
        Script.run("promise 13, one class", "unite x=-x -> 1", "unite x=y -> 1", "unite x=!y -> 1",
                "unite x=+xy -> 1", "nodes -> 5", "classes -> 1");
        Script.run("promise 13, at forty", "add " + "-".repeat(39) + "x -> 40",
                "unite x=-x -> 1", "nodes -> 2", "classes -> 1");
    }

    private static void membersFromNoneToMany() {
        Script all = new Script("promise 14");
        all.lines("members 0 -> -1", "text -> ", "add 0 -> 1", "members 0 -> 1", "text -> ");
        String others = "123456789xyz";
        for (int i = 0; i < others.length(); i++) {
            all.lines("members " + others.charAt(i) + " -> -1", "unite 0=" + others.charAt(i) + " -> 1",
                    "members 0 -> " + (i + 2));
        }
        all.lines("members -0 -> -1", "unite -0=0 -> 1", "unite !x=x -> 1", "unite +12=y -> 1",
                "unite *xx=z -> 1", "unite ^z9=3 -> 1", "members ^-!+1*234 -> 18", "nodes -> 18");
        Script.run("promise 14, not there", "add -x -> 2", "members -y -> -1", "text -> ",
                "members --x -> -1", "members !x -> -1", "members x -> 1", "nodes -> 2");
    }
}
