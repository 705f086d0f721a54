/** Long runs of calls on an object and on the model beside it, the same ones each time. */
public final class ModelTest {
    private static final int RUNS = 300;
    private static final int CALLS = 120;
    private static final String[] KNOWN_RULES = {
        "+ab=+ba", "*ab=*ba", "++abc=+a+bc", "+a+bc=++abc", "+a0=a", "*a1=a", "*a0=0", "+a-a=0",
        "--a=a", "a=--a", "*a+bc=+*ab*ac", "+*ab*ac=*a+bc", "^a2=*aa", "^a1=a", "!!a=a", "a=!a",
        "a=-+aa", "-+ab=+-a-b", "!*ab=+!a!b", "+aa=*2a", "x=y", "a=+a0", "0=+x-x", "*ab=b",
        "+++abcb=a", "+^ab^bc=^a^ac", "-a=!+a1", "a=x", "a=a", "^a+bc=*^ab^ac",
    };

    private long seed;
    private EqualTerms terms;
    private Model model;
    private String leaves;
    private String pairSigns;

    public static void main(String[] args) {
        for (int run = 1; run <= RUNS; run++) {
            new ModelTest().play(run);
        }
        Script.end();
    }

    private int next(int bound) {
        seed = seed * 6364136223846793005L + 1442695040888963407L;
        return (int) ((seed >>> 33) % bound);
    }

    private void play(int run) {
        seed = run * 7919L;
        terms = new EqualTerms();
        model = new Model();
        leaves = shuffled("0123456789xyz").substring(0, 2 + next(6));
        pairSigns = shuffled("+*^").substring(0, 1 + next(3));
        for (int i = 0; i < CALLS; i++) {
            step("run " + run + ", step " + i);
        }
    }

    private String shuffled(String all) {
        StringBuilder open = new StringBuilder(all);
        StringBuilder done = new StringBuilder();
        while (open.length() > 0) {
            int at = next(open.length());
            done.append(open.charAt(at));
            open.deleteCharAt(at);
        }
        return done.toString();
    }

    private void step(String name) {
        int choice = next(100);
        if (choice < 10) {
            int most = next(30) == 0 ? next(30) - 4 : next(4);
            due(name, "rounds " + most, model.rounds(most));
        } else if (choice < 16) {
            int sign = next(8) == 0 ? 33 + next(94) : "0123456789xyz-!+*^".charAt(next(18));
            int price = next(10) == 0 ? 1000000000 - 1 + next(3) : next(8);
            due(name, "price " + (char) sign + " " + price, model.price(sign, price));
        } else if (choice < 20) {
            due(name, "wipe", model.wipe());
        } else if (choice < 34) {
            onText(name, "rule", next(3) == 0 ? sides(pattern(3), pattern(3)) : knownRule());
        } else if (choice < 50) {
            onText(name, "add", term(1 + next(4)));
        } else if (choice < 64) {
            onText(name, "unite", sides(term(next(4)), term(next(3))));
        } else if (choice < 76) {
            onText(name, "same", sides(term(next(4)), term(next(4))));
        } else {
            String call = choice < 82 ? "members" : choice < 89 ? "cost" : "best";
            onText(name, call, term(next(4)));
        }
        Script.due(name, "the state", state(), model.state());
    }

    private void due(String name, String call, String want) {
        Script.due(name, call, Script.answer(terms, call), want);
    }

    private String state() {
        return Script.text(terms) + " " + terms.place() + " " + terms.nodes() + " " + terms.classes();
    }

    private void onText(String name, String call, String text) {
        String typed = next(12) == 0 ? spoilt(text) : text;
        for (int from = 0; from < typed.length(); ) {
            String piece = typed.substring(from, Math.min(typed.length(), from + 1 + next(8)));
            String want = model.type(piece);
            Script.due(name, "type " + piece, "" + terms.type(Script.bytes(piece), piece.length()), want);
            from += piece.length();
        }
        due(name, call + " .", model.onText(call));
        if (next(3) != 0) {
            due(name, "wipe", model.wipe());
        }
    }

    private String spoilt(String text) {
        int at = next(text.length() + 1);
        String rest = text.substring(Math.min(text.length(), at + next(2)));
        return text.substring(0, at) + (next(3) == 0 ? "" : (char) (32 + next(96))) + rest;
    }

    private static String sides(String first, String second) {
        return first + "=" + second;
    }

    private String knownRule() {
        return KNOWN_RULES[next(KNOWN_RULES.length)];
    }

    private String term(int depth) {
        return grown(depth, leaves);
    }

    private String pattern(int depth) {
        return grown(depth, "aabbcc" + leaves.substring(0, 2));
    }

    private String grown(int depth, String ends) {
        int choice = depth == 0 ? 0 : next(8);
        if (choice < 2) {
            return "" + ends.charAt(next(ends.length()));
        }
        if (choice < 4) {
            return "-!".charAt(next(2)) + grown(depth - 1, ends);
        }
        char sign = pairSigns.charAt(next(pairSigns.length()));
        return sign + grown(depth - 1, ends) + grown(depth - 1, ends);
    }
}
