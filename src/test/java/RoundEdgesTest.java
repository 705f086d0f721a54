/** The boundary cases of promise 11, rounds, and of what the document calls a round. */
public final class RoundEdgesTest {
    private static final String IAE = "throws.IllegalArgumentException";
    /** 25 nodes: thirteen leaves and twelve sums. */
    private static final String ALL_LEAVES = "+0+1+2+3+4+5+6+7+8+9+x+yz";

    public static void main(String[] args) {
        howMany();
        noRounds();
        atMostSoMany();
        twentyRounds();
        nothingToDo();
        whatCountsAsChange();
        textStays();
        fortyAreNotFull();
        fullDoesNothing();
        fullByAnyRule();
        fullByAPart();
        fullByManyFits();
        fullBehindOthers();
        fullIsNotSeenBeforeItsRound();
        equalNewNodesOnce();
        whatIsThereTakesNoRoom();
        fullCountsBeforeUniting();
        unitesAtForty();
        classesAsBeforeTheRound();
        sidesOfSeven();
        oneVariableTwice();
        Script.end();
    }

    private static void howMany() {
        for (int most : new int[] {-1, 21, 22, -20, 256, 276, Integer.MAX_VALUE, Integer.MIN_VALUE}) {
            Script.run("promise 11, not 0 .. 20", "add x -> 1", "rule a=-a -> 1", "type +x -> 2",
                    "rounds " + most + " !> " + IAE, "text -> +x", "place -> -1", "wipe -> 2",
                    "members -x -> -1", "members x -> 1", "rounds 1 -> 1");
        }
        for (int most = 0; most <= 20; most++) {
            Script.run("promise 11, 0 .. 20", "rounds " + most + " -> 0", "add x -> 1",
                    "rule a=-a -> 1", "rounds " + most + " -> " + Math.min(most, 1));
        }
    }

    private static void noRounds() {
        Script.run("promise 11, none", "add x -> 1", "rule a=0 -> 1", "rounds 0 -> 0", "nodes -> 1",
                "classes -> 1", "members 0 -> -1", "rounds 1 -> 1", "members 0 -> 2");
    }

    private static void atMostSoMany() {
        for (int most = 1; most <= 19; most++) {
            Script.run("promise 11, at most so many", "add x -> 1", "rule a=-+aa -> 1",
                    "rounds " + most + " -> " + most, "nodes -> " + (1 + 2 * most),
                    "classes -> " + (1 + most));
        }
    }

    /**
     * Five rounds with one node each, until 5 is there; then sixteen with two each: more rounds
     * change something than a call can do.
     */
    private static void twentyRounds() {
        Script.run("promise 11, twenty of twenty-one",
                "add *0x -> 3", "rule 0=1 -> 1", "rule 1=2 -> 2", "rule 2=3 -> 3", "rule 3=4 -> 4",
                "rule 4=5 -> 5", "rule *5a=*5-a -> 6", "rounds 20 -> 20", "nodes -> 38",
                "classes -> 18", "rounds 1 -> 1", "nodes -> 40", "classes -> 19", "rounds 1 -> -2",
                "nodes -> 40", "classes -> 19");
        Script.run("promise 11, nineteen and one",
                "add *0x -> 3", "rule 0=1 -> 1", "rule 1=2 -> 2", "rule 2=3 -> 3", "rule 3=4 -> 4",
                "rule 4=5 -> 5", "rule *5a=*5-a -> 6", "rounds 5 -> 5", "nodes -> 8", "classes -> 3",
                "rounds 14 -> 14", "nodes -> 36", "rounds 20 -> -2", "nodes -> 40");
    }

    private static void nothingToDo() {
        Script.run("promise 11, no rules", "rounds 20 -> 0", "add +xy -> 3", "rounds 20 -> 0");
        Script.run("promise 11, no nodes", "rule a=0 -> 1", "rule 0=1 -> 2", "rule a=-*aa -> 3",
                "rounds 20 -> 0", "nodes -> 0", "classes -> 0");
        Script.run("promise 11, no rule fits", "rule -a=a -> 1", "rule +aa=0 -> 2", "rule 0=1 -> 3",
                "add !x -> 2", "add +xy -> 4", "rounds 20 -> 0", "nodes -> 4", "classes -> 4");
        Script.run("promise 11, what fits is so already", "rule a=a -> 1", "rule +ab=+ab -> 2",
                "rule -a=a -> 3", "add +xy -> 3", "unite -x=x -> 3", "rounds 20 -> 0", "nodes -> 4");
    }

    private static void whatCountsAsChange() {
        Script.run("promise 11, adds no node but unites", "rule x=y -> 1", "add +xy -> 3",
                "rounds 20 -> 1", "nodes -> 3", "classes -> 2", "rounds 20 -> 0");
        Script.run("promise 11, adds a node", "rule x=!x -> 1", "add x -> 1", "rounds 20 -> 1",
                "nodes -> 2", "classes -> 1", "rounds 20 -> 0");
        Script.run("promise 11, as many nodes as before", "rule x=y -> 1", "rule -x=0 -> 2",
                "add -x -> 2", "add -y -> 4", "rounds 1 -> 1", "nodes -> 4", "classes -> 2",
                "rounds 20 -> 0");
    }

    private static void textStays() {
        Script.run("promise 11, the text is not read", "rule a=-+aa -> 1", "add x -> 1", "type a= -> 2",
                "rounds 19 -> 19", "text -> a=", "rounds 20 -> -2", "text -> a=", "rounds 0 -> 0",
                "text -> a=", "place -> -1");
    }

    private static void fortyAreNotFull() {
        Script.run("FULL, forty are not", "add " + "-".repeat(38) + "x -> 39", "rule x=y -> 1",
                "rounds 20 -> 1", "nodes -> 40", "rounds 20 -> 0");
        Script.run("FULL, forty-one are", "add " + "-".repeat(39) + "x -> 40", "rule x=y -> 1",
                "rounds 20 !> -2", "nodes -> 40", "members y -> -1");
        Script.run("FULL, forty by several", "add " + "-".repeat(36) + "x -> 37", "rule x=y -> 1",
                "rule -x=+x0 -> 2", "rounds 20 -> 1", "nodes -> 40");
        Script.run("FULL, forty-one by several", "add " + "-".repeat(37) + "x -> 38", "rule x=y -> 1",
                "rule -x=+x0 -> 2", "rounds 20 !> -2", "members y -> -1", "members 0 -> -1");
    }

    private static void fullDoesNothing() {
        Script.run("FULL, and nothing is done", "add " + "-".repeat(38) + "x -> 39",
                "rule x=-x -> 1", "rule --x=y -> 2", "rule ---x=z -> 3", "rounds 1 !> -2",
                "same x=-x -> 0", "members x -> 1", "members y -> -1", "members z -> -1",
                "best --x -> 3", "text -> --x", "wipe -> 3", "rounds 20 !> -2", "same x=-x -> 0",
                "unite x=-x -> 1", "nodes -> 2", "rounds 20 -> 1", "nodes -> 4", "classes -> 1");
    }

    private static void fullByAnyRule() {
        for (int last = 0; last < 3; last++) {
            Script run = new Script("FULL, by rule " + last);
            run.lines("add " + "-".repeat(39) + "x -> 40");
            for (int r = 0; r < 3; r++) {
                run.lines("rule " + (r == last ? "x=y" : "x=-x") + " -> " + (r + 1));
            }
            run.lines("rounds 1 !> -2", "same x=-x -> 0", "members y -> -1");
        }
    }

    private static void fullByAPart() {
        Script.run("FULL, a second side's part has room, but not all of it",
                "add " + "-".repeat(38) + "x -> 39", "rule x=+x!x -> 1", "rounds 1 !> -2",
                "members !x -> -1", "rule -x=!x -> 2", "rounds 1 !> -2", "unite --x=!x -> 39",
                "nodes -> 40");
        Script.run("FULL, two parts have room, and all of it",
                "add " + "-".repeat(37) + "x -> 38", "rule x=+x!x -> 1", "rounds 1 -> 1",
                "nodes -> 40", "classes -> 39", "members x -> 2", "members !x -> 1");
    }

    private static void fullByManyFits() {
        Script.run("FULL, forty by one rule", "add " + "-".repeat(19) + "x -> 20", "rule a=!a -> 1",
                "rounds 20 -> 1", "nodes -> 40", "classes -> 20");
        Script.run("FULL, forty-two by one rule", "add " + "-".repeat(20) + "x -> 21", "rule a=!a -> 1",
                "rounds 20 !> -2", "members !x -> -1", "unite x=-x -> 1", "rounds 20 -> 1",
                "nodes -> 3");
    }

    private static void fullBehindOthers() {
        Script.run("FULL, what rounds before it did stays", "add x -> 1", "rule a=-+aa -> 1",
                "rounds 20 -> -2", "nodes -> 39", "classes -> 20", "members x -> 2",
                "same x=-+xx -> 1", "rounds 20 !> -2", "rounds 1 !> -2", "rounds 0 -> 0");
    }

    private static void fullIsNotSeenBeforeItsRound() {
        Script.run("FULL, only when one was", "add x -> 1", "rule a=-+aa -> 1", "rounds 18 -> 18",
                "rounds 1 -> 1", "nodes -> 39", "rounds 1 !> -2");
        Script.run("FULL, not when there is no round", "add " + "-".repeat(39) + "x -> 40",
                "rule x=y -> 1", "rounds 0 -> 0", "rounds 1 -> -2");
    }

    private static void equalNewNodesOnce() {
        Script.run("new nodes, equal ones once", "add " + "-".repeat(38) + "x -> 39", "rule x=y -> 1",
                "rule -x=y -> 2", "rule --x=y -> 3", "rule ---a=y -> 4", "rounds 1 -> 1",
                "members y -> 3");
        Script.run("new nodes, equal parts once", "add " + "-".repeat(36) + "x -> 37",
                "rule x=+!x!x -> 1", "rule -x=*!x!x -> 2", "rounds 1 -> 1", "nodes -> 40");
        Script.run("new nodes, unequal ones", "add " + "-".repeat(38) + "x -> 39", "rule x=y -> 1",
                "rule -x=z -> 2", "rounds 1 !> -2");
    }

    private static void whatIsThereTakesNoRoom() {
        Script.run("new nodes, only what is not there", "add " + "-".repeat(39) + "x -> 40",
                "rule -a=a -> 1", "rounds 20 -> 1", "nodes -> 2", "classes -> 1");
        Script.run("new nodes, with parts that are there", "add " + "-".repeat(38) + "x -> 39",
                "rule --a=!---x -> 1", "rounds 1 -> 1", "members !---x -> 3");
    }

    private static void fullCountsBeforeUniting() {
        Script.run("FULL, though uniting would make room", "add " + ALL_LEAVES + " -> 25",
                "rule a=!a -> 1", "rule a=0 -> 2", "rounds 1 !> -2", "same 0=1 -> 0");
        Script.run("FULL, though the new nodes would be one", "add " + "-".repeat(37) + "x -> 38",
                "add y -> 39", "rule x=y -> 1", "rule x=!x -> 2", "rule y=!y -> 3", "rounds 1 !> -2",
                "unite x=y -> 38", "rounds 1 -> 1", "nodes -> 40");
    }

    private static void unitesAtForty() {
        Script.run("not FULL, at forty", "add " + ALL_LEAVES + " -> 25",
                "add " + "-".repeat(15) + "x -> 40", "rule 0=1 -> 1", "rounds 20 -> 1", "nodes -> 40",
                "classes -> 39", "rule -a=a -> 2", "rounds 20 -> 1", "nodes -> 26", "classes -> 24");
    }

    private static void classesAsBeforeTheRound() {
        Script.run("a round, new nodes fit in the next one", "rule x=y -> 1", "rule y=z -> 2",
                "add x -> 1", "rounds 1 -> 1", "nodes -> 2", "members z -> -1", "rounds 1 -> 1",
                "members z -> 3", "rounds 1 -> 0");
        Script.run("a round, the other way round", "rule y=z -> 1", "rule x=y -> 2",
                "add x -> 1", "rounds 1 -> 1", "nodes -> 2", "members z -> -1", "rounds 1 -> 1",
                "members z -> 3", "rounds 1 -> 0");
        Script.run("a round, united classes fit in the next one", "rule x=y -> 1", "rule +aa=0 -> 2",
                "add +xy -> 3", "rounds 1 -> 1", "members 0 -> -1", "rounds 1 -> 1", "members 0 -> 2");
        Script.run("a round, new nodes are of classes before it", "rule x=y -> 1", "rule a=!a -> 2",
                "add x -> 1", "add y -> 2", "rounds 1 -> 1", "nodes -> 3", "classes -> 1");
    }

    private static void sidesOfSeven() {
        Script.run("a first side of seven, in a row", "rule ------a=0 -> 1", "add -----x -> 6",
                "rounds 20 -> 0", "add ------x -> 7", "rounds 20 -> 1", "same ------x=0 -> 1");
        Script.run("a first side of seven, in pairs", "rule +++abca=0 -> 1", "add +++xyzy -> 6",
                "rounds 20 -> 0", "add +++xyzx -> 7", "rounds 20 -> 1", "same +++xyzx=0 -> 1",
                "same +++xyzy=0 -> 0");
        Script.run("a second side of seven", "rule a=------a -> 1", "add x -> 1", "rounds 20 -> 1",
                "nodes -> 7", "classes -> 6", "same x=------x -> 1", "same x=-----x -> 0");
        Script.run("both sides of seven", "rule +-a*!bc=^c+!b-a -> 1", "add +-x*!yz -> 7",
                "add +*!yz-x -> 8", "rounds 20 -> 1", "nodes -> 10", "same +-x*!yz=^z+!y-x -> 1",
                "same +*!yz-x=^z+!y-x -> 0");
    }

    private static void oneVariableTwice() {
        Script.run("a variable is one class", "rule +aa=0 -> 1", "add +xy -> 3", "rounds 20 -> 0",
                "unite x=y -> 2", "rounds 20 -> 1", "same +yx=0 -> 1");
        Script.run("two variables can be one class", "rule +ab=*ba -> 1", "add +xx -> 2",
                "rounds 20 -> 1", "same *xx=+xx -> 1", "nodes -> 3");
    }
}
