import java.util.Objects;

/**
 * Runs of calls written as lines "call argument -> answer", on one object.
 *
 * <p>rule, add, unite, same, members, cost and best type their argument before they are called (a
 * '.' types nothing). "type" types a text of any length; "bytes" is one call of type, with its long
 * in hexadecimal and its n. "price" takes a sign, "code" the number of one. "text" asks for all
 * characters. An exception is "throws." and its name; price answers "done".
 *
 * <p>With " !> " for the arrow the call is refused, too: the text, the nodes and the classes have to
 * be as they were right before it.
 */
final class Script {
    /** The document promises nothing about an object beyond these. */
    private static final int MOST_CALLS = 512;
    private static int wrong = 0;
    private final String name;
    private final EqualTerms terms = new EqualTerms();
    private int calls = 0;

    Script(String name) {
        this.name = name;
    }

    static void run(String name, String... lines) {
        new Script(name).lines(lines);
    }

    void lines(String... lines) {
        for (String line : lines) {
            int arrow = line.indexOf(" -> ");
            if (arrow >= 0) {
                check(line.substring(0, arrow), line.substring(arrow + 4));
            } else {
                int refusal = line.indexOf(" !> ");
                checkRefused(line.substring(0, refusal), line.substring(refusal + 4));
            }
        }
    }

    void check(String call, String want) {
        due(name, call, answer(call), want);
    }

    private void checkRefused(String call, String want) {
        String[] words = call.split(" ");
        boolean reads = readsText(words[0]);
        if (reads && !words[1].equals(".")) {
            type(words[1]);
        }
        String before = state();
        due(name, call, answer(reads ? words[0] + " ." : call), want);
        due(name, "what stays over " + call, state(), before);
    }

    private String state() {
        return text() + " " + counted().nodes() + " " + counted().classes();
    }

    static void due(String name, String call, String got, String want) {
        if (!Objects.equals(got, want)) {
            wrong++;
            System.out.println(name + ": " + call + " answered " + got + ", due is " + want);
        }
    }

    static void end() {
        System.out.println(wrong == 0 ? "all answers are as due" : wrong + " answers are not as due");
        if (wrong != 0) {
            System.exit(1);
        }
    }

    private EqualTerms counted() {
        calls++;
        if (calls > MOST_CALLS) {
            throw new Error(name + ": more calls than the document speaks of");
        }
        return terms;
    }

    int callsLeft() {
        return MOST_CALLS - calls;
    }

    String answer(String call) {
        String[] words = call.split(" ");
        try {
            return words.length == 1 ? plain(words[0]) : withArgument(words);
        } catch (RuntimeException e) {
            return "throws." + e.getClass().getSimpleName();
        }
    }

    private String plain(String call) {
        switch (call) {
            case "wipe":
                return "" + counted().wipe();
            case "place":
                return "" + counted().place();
            case "nodes":
                return "" + counted().nodes();
            case "classes":
                return "" + counted().classes();
            case "text":
                return text();
            default:
                throw new Error("no such call: " + call);
        }
    }

    private String withArgument(String[] words) {
        switch (words[0]) {
            case "type":
                return "" + type(words[1]);
            case "bytes":
                long bytes = Long.parseUnsignedLong(words[1], 16);
                return "" + counted().type(bytes, Integer.parseInt(words[2]));
            case "character":
                return "" + counted().character(Integer.parseInt(words[1]));
            case "rounds":
                return "" + counted().rounds(Integer.parseInt(words[1]));
            case "price":
                counted().price(words[1].charAt(0), Integer.parseInt(words[2]));
                return "done";
            case "code":
                counted().price(Integer.parseInt(words[1]), Integer.parseInt(words[2]));
                return "done";
            default:
                if (!words[1].equals(".")) {
                    type(words[1]);
                }
                return "" + onText(words[0]);
        }
    }

    private static boolean readsText(String call) {
        return " rule add unite same members cost best ".contains(" " + call + " ");
    }

    private long onText(String call) {
        switch (call) {
            case "rule":
                return counted().rule();
            case "add":
                return counted().add();
            case "unite":
                return counted().unite();
            case "same":
                return counted().same();
            case "members":
                return counted().members();
            case "cost":
                return counted().cost();
            case "best":
                return counted().best();
            default:
                throw new Error("no such call: " + call);
        }
    }

    /** Types a text of any length, eight characters a call: the last call's answer. */
    private int type(String text) {
        int answer = EqualTerms.NONE;
        for (int from = 0; from < text.length(); from += 8) {
            answer = typePiece(text.substring(from, Math.min(text.length(), from + 8)));
        }
        return answer;
    }

    /** One call of type. */
    int typePiece(String piece) {
        long bytes = 0;
        for (int i = 0; i < piece.length(); i++) {
            bytes = bytes << 8 | piece.charAt(i);
        }
        return counted().type(bytes, piece.length());
    }

    private String text() {
        StringBuilder text = new StringBuilder();
        int next = counted().character(0);
        while (next != EqualTerms.NONE) {
            text.append((char) next);
            next = counted().character(text.length());
        }
        return text.toString();
    }
}
