import java.util.Objects;

/**
 * Runs of calls written as lines "call argument -> answer", on one object.
 *
 * <p>rule, add, unite, same, members, cost and best type their argument before they are called (a
 * '.' types nothing). "text" asks for all characters. An exception is "throws." and its name; price
 * answers "done".
 */
final class Script {
    private static int wrong = 0;
    private final String name;
    private final EqualTerms terms = new EqualTerms();

    private Script(String name) {
        this.name = name;
    }

    static void run(String name, String... lines) {
        Script script = new Script(name);
        for (String line : lines) {
            int arrow = line.indexOf(" -> ");
            script.check(line.substring(0, arrow), line.substring(arrow + 4));
        }
    }

    private void check(String call, String want) {
        due(name, call, answer(terms, call), want);
    }

    static void due(String name, String call, String got, String want) {
        if (!Objects.equals(got, want)) {
            wrong++;
            System.out.println(name + ": " + call + " answered " + got + ", due is " + want);
        }
    }

    static void end() {
        System.out.println(wrong == 0 ? "all answers are as due" : wrong + " answers are not as due");
        if (wrong != 0) {
            System.exit(1);
        }
    }

    static String answer(EqualTerms terms, String call) {
        String[] words = call.split(" ");
        try {
            return words.length == 1 ? plain(terms, words[0]) : withArgument(terms, words);
        } catch (RuntimeException e) {
            return "throws." + e.getClass().getSimpleName();
        }
    }

    private static String plain(EqualTerms terms, String call) {
        switch (call) {
            case "wipe":
                return "" + terms.wipe();
            case "place":
                return "" + terms.place();
            case "nodes":
                return "" + terms.nodes();
            case "classes":
                return "" + terms.classes();
            case "text":
                return text(terms);
            default:
                throw new Error("no such call: " + call);
        }
    }

    private static String withArgument(EqualTerms terms, String[] words) {
        switch (words[0]) {
            case "type":
                return "" + type(terms, words[1]);
            case "character":
                return "" + terms.character(Integer.parseInt(words[1]));
            case "rounds":
                return "" + terms.rounds(Integer.parseInt(words[1]));
            case "price":
                terms.price(words[1].charAt(0), Integer.parseInt(words[2]));
                return "done";
            default:
                if (!words[1].equals(".")) {
                    type(terms, words[1]);
                }
                return "" + onText(terms, words[0]);
        }
    }

    private static long onText(EqualTerms terms, String call) {
        switch (call) {
            case "rule":
                return terms.rule();
            case "add":
                return terms.add();
            case "unite":
                return terms.unite();
            case "same":
                return terms.same();
            case "members":
                return terms.members();
            case "cost":
                return terms.cost();
            case "best":
                return terms.best();
            default:
                throw new Error("no such call: " + call);
        }
    }

    /** Types a text of any length, eight characters a call: the last call's answer. */
    static int type(EqualTerms terms, String text) {
        int answer = EqualTerms.NONE;
        for (int from = 0; from < text.length(); from += 8) {
            String piece = text.substring(from, Math.min(text.length(), from + 8));
            answer = terms.type(bytes(piece), piece.length());
        }
        return answer;
    }

    static long bytes(String piece) {
        long bytes = 0;
        for (int i = 0; i < piece.length(); i++) {
            bytes = bytes << 8 | piece.charAt(i);
        }
        return bytes;
    }

    static String text(EqualTerms terms) {
        StringBuilder text = new StringBuilder();
        for (int i = 0; terms.character(i) != EqualTerms.NONE; i++) {
            text.append((char) terms.character(i));
        }
        return text.toString();
    }
}
