/** The boundary cases of promise 6, rule, and of what the document calls a term and a pattern. */
public final class RuleEdgesTest {
    private static final String IAE = "throws.IllegalArgumentException";
    private static final String ISE = "throws.IllegalStateException";
    private static final String LEAVES = "0123456789xyz";
    private static final String SIGNS = "0123456789xyz-!+*^abc=";

    public static void main(String[] args) {
        leavesOfTerms();
        leavesOfPatterns();
        partsOfSigns();
        firstSideOfSeven();
        secondSideOfSeven();
        bothSidesOfSeven();
        variablesOfTheSecondSide();
        oneEqualSign();
        sixRules();
        wrongTextAtSixRules();
        refusedRulesDoNotCount();
        rulesNeedNoRoomForNodes();
        Script.end();
    }

    private static void leavesOfTerms() {
        for (char sign = 33; sign <= 126; sign++) {
            boolean leaf = LEAVES.indexOf(sign) >= 0;
            if (leaf) {
                Script.run("a leaf", "add " + sign + " -> 1", "add -" + sign + " -> 2",
                        "unite " + sign + "=+" + sign + sign + " -> 2", "members " + sign + " -> 2");
            } else {
                String place = "+*^-!".indexOf(sign) >= 0 ? "1" : "0";
                Script.run("no leaf", "type " + sign + " -> 1", "add . !> " + IAE, "place -> " + place,
                        "members . !> " + IAE, "cost . !> " + IAE, "best . !> " + IAE);
            }
        }
    }

    private static void leavesOfPatterns() {
        for (char sign = 33; sign <= 126; sign++) {
            boolean variable = sign >= 'a' && sign <= 'c';
            if (variable || LEAVES.indexOf(sign) >= 0) {
                Script.run("a leaf of a pattern", "rule " + sign + "=" + sign + " -> 1",
                        "rule -" + sign + "=+" + sign + sign + " -> 2");
            } else if (SIGNS.indexOf(sign) < 0) {
                Script.run("no leaf of a pattern", "rule " + sign + "=0 !> " + IAE, "place -> 0",
                        "wipe -> 3", "rule 0=" + sign + " !> " + IAE, "place -> 2");
            }
            if (variable) {
                Script.run("no leaf of a term", "unite " + sign + "=0 !> " + IAE, "place -> 0",
                        "wipe -> 3", "same 0=" + sign + " !> " + IAE, "place -> 2");
            }
        }
    }

    private static void partsOfSigns() {
        for (String sign : new String[] {"-", "!"}) {
            Script.run("one part", "add " + sign + " !> " + IAE, "place -> 1", "add x -> 2",
                    "add " + sign + "xy !> " + IAE, "place -> 2", "wipe -> 3",
                    "rule " + sign + "a=a -> 1", "rule " + sign + "=a !> " + IAE, "place -> 1");
        }
        for (String sign : new String[] {"+", "*", "^"}) {
            Script.run("two parts", "add " + sign + "x !> " + IAE, "place -> 2", "add y -> 3",
                    "add " + sign + "xyz !> " + IAE, "place -> 3", "wipe -> 4",
                    "rule " + sign + "ab=a -> 1", "rule " + sign + "a=a !> " + IAE, "place -> 2");
        }
    }

    private static void firstSideOfSeven() {
        taken("a=0");
        for (String side : new String[] {"------a", "+++abca", "+a*b^c0", "-+-a!-b", "^^ab^bc"}) {
            taken(side + "=0");
        }
        for (String side : new String[] {"-------a", "+++abc-a", "-+++abca", "+++++abcabc"}) {
            refused(side + "=0", 7);
        }
        for (String next : new String[] {"a", "x", "-", "+", "=", "~", "d"}) {
            refused("-------" + next, 7);
        }
        refused("-------", 7);
        refused("------", 6);
        refused("------aa=0", 7);
        refused("------a", 7);
    }

    private static void secondSideOfSeven() {
        taken("a=a");
        for (String side : new String[] {"------a", "+++aaaa", "+a*a^a0", "------x", "^^aa^aa"}) {
            taken("a=" + side);
        }
        for (String side : new String[] {"-------a", "+++aaa-a", "-+++aaaa", "+++++aaaaaa"}) {
            refused("a=" + side, 9);
        }
        for (String next : new String[] {"a", "b", "x", "-", "+", "=", "~"}) {
            refused("a=-------" + next, 9);
            refused("a=------a" + next, 9);
        }
        refused("a=-------", 9);
        refused("a=------", 8);
    }

    private static void bothSidesOfSeven() {
        taken("+++abca=***abca");
        taken("------a=!!!!!!a");
        refused("+++abca=***abc-a", 15);
        refused("+++abc-a=***abca", 7);
        refused("+++abca=***abcaa", 15);
        refused("+++abca=***abc", 14);
        // The eighth character of a text may well be the '=' between its sides, or behind it.
        taken("+++abca=a");
        taken("-----a=------a");
    }

    private static void variablesOfTheSecondSide() {
        for (String pair : new String[] {"ab", "ac", "ba", "bc", "ca", "cb"}) {
            char in = pair.charAt(0);
            char out = pair.charAt(1);
            taken("+" + in + out + "=" + out);
            taken(in + "=" + in);
            taken("+" + in + out + "=0");
            refused(in + "=" + out, 2);
            refused("-" + in + "=+" + in + out, 5);
            refused("0=" + out, 2);
        }
        taken("0=1");
        taken("+++000c=------c");
        refused("+++000c=------b", 14);
        refused("++abx=*c~", 7);
    }

    private static void oneEqualSign() {
        refused("a", 1);
        refused("=", 0);
        refused("==", 0);
        refused("a=", 2);
        refused("a==a", 2);
        refused("a=a=", 3);
        refused("-=a", 1);
        refused("ab=a", 1);
        refused("a+b", 1);
    }

    private static void taken(String text) {
        Script.run("promise 6, a rule", "rule " + text + " -> 1", "text -> ", "place -> -1",
                "nodes -> 0", "rule " + text + " -> 2");
    }

    private static void refused(String text, int place) {
        Script.run("promise 6, no rule", "rule " + text + " !> " + IAE, "text -> " + text,
                "place -> " + place, "wipe -> " + text.length(), "rule a=a -> 1");
    }

    private static void sixRules() {
        Script.run("promise 6, six",
                "rule a=a -> 1", "rule a=a -> 2", "rule b=b -> 3", "rule c=c -> 4", "rule -a=a -> 5",
                "rule !a=a -> 6", "text -> ", "rule a=0 !> " + ISE, "text -> a=0", "place -> -1",
                "rule . !> " + ISE, "wipe -> 3", "add -!x -> 3", "rounds 20 -> 1", "nodes -> 3",
                "classes -> 1", "members 0 -> -1", "rule +ab=0 !> " + ISE);
    }

    private static void wrongTextAtSixRules() {
        Script.run("promise 6, no rule at six",
                "rule a=a -> 1", "rule a=a -> 2", "rule a=a -> 3", "rule a=a -> 4", "rule a=a -> 5",
                "rule b !> " + IAE, "place -> 1", "wipe -> 1", "rule a=a -> 6",
                "rule a=b !> " + IAE, "place -> 2", "wipe -> 3", "rule . !> " + IAE, "place -> 0",
                "rule a=a !> " + ISE, "place -> 0");
    }

    private static void refusedRulesDoNotCount() {
        Script.run("promise 6, refused ones do nothing",
                "add x -> 1", "rule a=-------a -> " + IAE, "rounds 20 -> 0", "nodes -> 1", "wipe -> 10",
                "rule a=a=0 -> " + IAE, "rounds 20 -> 0", "wipe -> 5", "rule a=0 -> 1",
                "rounds 20 -> 1", "members x -> 2");
    }

    private static void rulesNeedNoRoomForNodes() {
        Script.run("promise 6, at forty nodes",
                "add " + "-".repeat(39) + "x -> 40", "rule a=!*aa -> 1", "nodes -> 40",
                "rounds 1 -> -2", "rule --a=a -> 2");
    }
}
