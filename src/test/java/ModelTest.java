/** Long runs of calls on an object and on the model beside it, the same ones each time. */
public final class ModelTest {
    private static final int RUNS = 700;
    /** Kept for the last step of a run; Script would tell if one took more. */
    private static final int CALLS_OF_A_STEP = 90;
    private static final String[] KNOWN_RULES = {
        "+ab=+ba", "*ab=*ba", "++abc=+a+bc", "+a+bc=++abc", "+a0=a", "*a1=a", "*a0=0", "+a-a=0",
        "--a=a", "a=--a", "*a+bc=+*ab*ac", "+*ab*ac=*a+bc", "^a2=*aa", "^a1=a", "!!a=a", "a=!a",
        "a=-+aa", "-+ab=+-a-b", "!*ab=+!a!b", "+aa=*2a", "x=y", "a=+a0", "0=+x-x", "*ab=b",
        "+++abcb=a", "+^ab^bc=^a^ac", "-a=!+a1", "a=x", "a=a", "^a+bc=*^ab^ac",
    };

    private long seed;
    private Script terms;
    private Model model;
    private String leaves;
    private String pairSigns;

    public static void main(String[] args) {
        for (int run = 1; run <= RUNS; run++) {
            new ModelTest().play(run);
        }
        Script.end();
    }

    private int next(int bound) {
        seed = seed * 6364136223846793005L + 1442695040888963407L;
        return (int) ((seed >>> 33) % bound);
    }

    private void play(int run) {
        seed = run * 7919L;
        terms = new Script("run " + run);
        model = new Model();
        leaves = shuffled("0123456789xyz").substring(0, 2 + next(6));
        pairSigns = shuffled("+*^").substring(0, 1 + next(3));
        if (run % 4 == 0) {
            growLongTerms();
        }
        while (terms.callsLeft() >= CALLS_OF_A_STEP) {
            step();
            look();
        }
    }

    /** Each leaf is a sum of the one before it, too, at prices where some sums of over 60 are best. */
    private void growLongTerms() {
        for (int i = 1; i < leaves.length(); i++) {
            char part = leaves.charAt(i - 1);
            char sum = leaves.charAt(i);
            int price = 50 + next(200);
            terms.check("price " + sum + " " + price, model.price(sum, price));
            String parts = next(2) == 0 ? "+*" + part + part + part : "+!" + part + "*" + part + part;
            onText("unite", sum + "=" + parts);
            terms.check("wipe", model.wipe());
        }
        for (char leaf : leaves.toCharArray()) {
            onText("best", "" + leaf);
            terms.check("wipe", model.wipe());
        }
    }

    private String shuffled(String all) {
        StringBuilder open = new StringBuilder(all);
        StringBuilder done = new StringBuilder();
        while (open.length() > 0) {
            int at = next(open.length());
            done.append(open.charAt(at));
            open.deleteCharAt(at);
        }
        return done.toString();
    }

    private void step() {
        int choice = next(100);
        if (choice < 10) {
            int most = next(30) == 0 ? next(30) - 4 : next(4);
            terms.check("rounds " + most, model.rounds(most));
        } else if (choice < 16) {
            int sign = next(8) == 0 ? 33 + next(94) : "0123456789xyz-!+*^".charAt(next(18));
            int price = next(10) == 0 ? 1000000000 - 1 + next(3) : next(8);
            terms.check("price " + (char) sign + " " + price, model.price(sign, price));
        } else if (choice < 20) {
            terms.check("wipe", model.wipe());
        } else if (choice < 34) {
            onText("rule", next(3) == 0 ? sides(pattern(3), pattern(3)) : knownRule());
        } else if (choice < 50) {
            onText("add", term(1 + next(4)));
        } else if (choice < 64) {
            onText("unite", sides(term(next(4)), term(next(3))));
        } else if (choice < 76) {
            onText("same", sides(term(next(4)), term(next(4))));
        } else {
            String call = choice < 82 ? "members" : choice < 89 ? "cost" : "best";
            onText(call, term(next(4)));
        }
    }

    /** The text takes many calls to look at, so that is done now and then only. */
    private void look() {
        terms.check("nodes", model.nodes());
        terms.check("classes", model.classes());
        if (next(3) == 0) {
            terms.check("place", model.place());
        }
        if (next(12) == 0) {
            terms.check("text", model.text());
        }
    }

    private void onText(String call, String text) {
        String typed = next(12) == 0 ? spoilt(text) : text;
        for (int from = 0; from < typed.length(); ) {
            int most = next(2) == 0 ? 8 : 1 + next(8);
            String piece = typed.substring(from, Math.min(typed.length(), from + most));
            String want = model.type(piece);
            Script.due("type", piece, "" + terms.typePiece(piece), want);
            from += piece.length();
        }
        terms.check(call + " .", model.onText(call));
        if (call.equals("best") && next(4) == 0) {
            terms.check("text", model.text());
        }
        if (!model.text().isEmpty() && next(3) != 0) {
            terms.check("wipe", model.wipe());
        }
    }

    private String spoilt(String text) {
        int at = next(text.length() + 1);
        String rest = text.substring(Math.min(text.length(), at + next(2)));
        return text.substring(0, at) + (next(3) == 0 ? "" : (char) (32 + next(96))) + rest;
    }

    private static String sides(String first, String second) {
        return first + "=" + second;
    }

    private String knownRule() {
        return KNOWN_RULES[next(KNOWN_RULES.length)];
    }

    private String term(int depth) {
        return grown(depth, leaves);
    }

    private String pattern(int depth) {
        return grown(depth, "aabbcc" + leaves.substring(0, 2));
    }

    private String grown(int depth, String ends) {
        int choice = depth == 0 ? 0 : next(8);
        if (choice < 2) {
            return "" + ends.charAt(next(ends.length()));
        }
        if (choice < 4) {
            return "-!".charAt(next(2)) + grown(depth - 1, ends);
        }
        char sign = pairSigns.charAt(next(pairSigns.length()));
        return sign + grown(depth - 1, ends) + grown(depth - 1, ends);
    }
}
