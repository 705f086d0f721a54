import java.math.BigInteger;
import java.util.ArrayList;
import java.util.HashMap;
import java.util.LinkedHashMap;
import java.util.List;
import java.util.Map;
import java.util.TreeSet;

/** What the document says, done in the plainest way. */
final class Model {
    private static final String SIGNS = "0123456789xyz-!+*^";
    private static final BigInteger MOST_COST = BigInteger.ONE.shiftLeft(62);

    private String text = "";
    private int place = -1;
    private final List<Tree[]> rules = new ArrayList<>();
    /** Each node, as its sign and classes, with the class it is in. */
    private Map<List<Object>, Integer> nodes = new LinkedHashMap<>();
    private final Map<Character, Integer> prices = new HashMap<>();
    private int classesMade = 0;

    /** A text that can't be read. */
    private static final class Wrong extends Exception {
        private static final long serialVersionUID = 1L;
        private final int place;

        private Wrong(int place) {
            this.place = place;
        }
    }

    private record Tree(char sign, List<Tree> parts, int end) {}

    private record Fit(int first, Tree second, Map<Character, Integer> variables) {}

    private record Price(BigInteger cost, BigInteger signs, String term) {
        boolean isBefore(Price other) {
            if (other == null || !cost.equals(other.cost)) {
                return other == null || cost.compareTo(other.cost) < 0;
            }
            if (!signs.equals(other.signs)) {
                return signs.compareTo(other.signs) < 0;
            }
            return term != null && term.compareTo(other.term) < 0;
        }
    }

    Model() {
        for (char sign : SIGNS.toCharArray()) {
            prices.put(sign, 1);
        }
    }

    String text() {
        return text;
    }

    String place() {
        return "" + place;
    }

    String nodes() {
        return "" + nodes.size();
    }

    String classes() {
        return "" + homes().size();
    }

    String type(String piece) {
        if (piece.isEmpty() || piece.length() > 8 || text.length() + piece.length() > 60
                || piece.chars().anyMatch(c -> c < 33 || c > 126)) {
            return "-1";
        }
        text += piece;
        return "" + text.length();
    }

    String wipe() {
        return "" + take().length();
    }

    String price(int sign, int price) {
        if (sign < 0 || SIGNS.indexOf(sign) < 0 || price < 1 || price > 1000000000) {
            return "throws.IllegalArgumentException";
        }
        prices.put((char) sign, price);
        return "done";
    }

    String onText(String call) {
        try {
            switch (call) {
                case "rule":
                    return rule(readSides("abc", 7));
                case "add":
                    return add(List.of(readTerm()));
                case "unite":
                    return add(List.of(readSides("", 60)));
                case "same":
                    return same(readSides("", 60));
                default:
                    return ask(call, readTerm());
            }
        } catch (Wrong wrong) {
            place = wrong.place;
            return "throws.IllegalArgumentException";
        }
    }

    private String take() {
        String taken = text;
        text = "";
        return taken;
    }

    private Tree readTerm() throws Wrong {
        Tree tree = read(0, "", 60);
        if (tree.end < text.length()) {
            throw new Wrong(tree.end);
        }
        return tree;
    }

    private Tree[] readSides(String variables, int most) throws Wrong {
        Tree first = read(0, variables, most);
        if (first.end >= text.length() || text.charAt(first.end) != '=') {
            throw new Wrong(first.end);
        }
        String known = "";
        for (char variable : variables.toCharArray()) {
            known += text.substring(0, first.end).indexOf(variable) >= 0 ? variable : "";
        }
        int start = first.end + 1;
        Tree second = read(start, known, start + most);
        if (second.end < text.length()) {
            throw new Wrong(second.end);
        }
        return new Tree[] {first, second};
    }

    private Tree read(int from, String variables, int limit) throws Wrong {
        if (from >= text.length() || from >= limit) {
            throw new Wrong(from);
        }
        char sign = text.charAt(from);
        if (variables.indexOf(sign) < 0 && SIGNS.indexOf(sign) < 0) {
            throw new Wrong(from);
        }
        int count = "-!".indexOf(sign) >= 0 ? 1 : "+*^".indexOf(sign) >= 0 ? 2 : 0;
        List<Tree> parts = new ArrayList<>();
        int end = from + 1;
        for (int i = 0; i < count; i++) {
            parts.add(read(end, variables, limit));
            end = parts.get(i).end;
        }
        return new Tree(sign, parts, end);
    }

    private String rule(Tree[] sides) {
        if (rules.size() == 6) {
            return "throws.IllegalStateException";
        }
        rules.add(sides);
        take();
        return "" + rules.size();
    }

    /** Adds one term, or adds two and unites them. */
    private String add(List<Tree> trees) {
        Map<List<Object>, Integer> before = new LinkedHashMap<>(nodes);
        List<Integer> homes = new ArrayList<>();
        for (Tree tree : trees) {
            homes.add(grow(tree, Map.of()));
        }
        if (nodes.size() > 40) {
            nodes = before;
            return "throws.IllegalStateException";
        }
        take();
        if (homes.size() == 1) {
            return "" + nodes.size();
        }
        uniteAll(List.of(new int[] {homes.get(0), homes.get(1)}));
        return classes();
    }

    private Integer grow(Tree tree, Map<Character, Integer> variables) {
        if (variables.containsKey(tree.sign)) {
            return variables.get(tree.sign);
        }
        List<Object> node = new ArrayList<>(List.of(tree.sign));
        for (Tree part : tree.parts) {
            node.add(grow(part, variables));
        }
        if (!nodes.containsKey(node)) {
            nodes.put(node, classesMade++);
        }
        return nodes.get(node);
    }

    private Integer look(Tree tree, Map<Character, Integer> variables) {
        if (variables.containsKey(tree.sign)) {
            return variables.get(tree.sign);
        }
        List<Object> node = new ArrayList<>(List.of(tree.sign));
        for (Tree part : tree.parts) {
            Integer home = look(part, variables);
            if (home == null) {
                return null;
            }
            node.add(home);
        }
        return nodes.get(node);
    }

    private TreeSet<Integer> homes() {
        return new TreeSet<>(nodes.values());
    }

    private boolean uniteAll(List<int[]> pairs) {
        List<int[]> open = new ArrayList<>(pairs);
        boolean united = false;
        while (!open.isEmpty()) {
            int[] pair = open.remove(0);
            if (pair[0] != pair[1]) {
                united = true;
                for (int[] other : open) {
                    other[0] = other[0] == pair[1] ? pair[0] : other[0];
                    other[1] = other[1] == pair[1] ? pair[0] : other[1];
                }
                open.addAll(0, replace(pair[1], pair[0]));
            }
        }
        return united;
    }

    /** Writes one class for another in all nodes: the pairs of classes that same nodes are in. */
    private List<int[]> replace(int lost, int kept) {
        List<int[]> pairs = new ArrayList<>();
        Map<List<Object>, Integer> after = new LinkedHashMap<>();
        nodes.forEach((node, home) -> {
            List<Object> written = new ArrayList<>(node);
            written.replaceAll(x -> x.equals(lost) ? kept : x);
            int writtenHome = home == lost ? kept : home;
            Integer twin = after.putIfAbsent(written, writtenHome);
            if (twin != null) {
                pairs.add(new int[] {twin, writtenHome});
            }
        });
        nodes = after;
        return pairs;
    }

    private String same(Tree[] sides) {
        take();
        Integer first = look(sides[0], Map.of());
        Integer second = look(sides[1], Map.of());
        return first == null || second == null ? "-1" : first.equals(second) ? "1" : "0";
    }

    String rounds(int most) {
        if (most < 0 || most > 20) {
            return "throws.IllegalArgumentException";
        }
        for (int i = 0; i < most; i++) {
            Map<List<Object>, Integer> before = new LinkedHashMap<>(nodes);
            List<Fit> fits = new ArrayList<>();
            for (Tree[] sides : rules) {
                findFits(sides, "abc", new HashMap<>(), fits);
            }
            List<int[]> pairs = new ArrayList<>();
            for (Fit fit : fits) {
                pairs.add(new int[] {fit.first, grow(fit.second, fit.variables)});
            }
            if (nodes.size() > 40) {
                nodes = before;
                return "-2";
            }
            boolean added = nodes.size() > before.size();
            if (!uniteAll(pairs) && !added) {
                return "" + i;
            }
        }
        return "" + most;
    }

    private void findFits(Tree[] sides, String open, Map<Character, Integer> set, List<Fit> fits) {
        if (open.isEmpty()) {
            Integer first = look(sides[0], set);
            if (first != null) {
                fits.add(new Fit(first, sides[1], new HashMap<>(set)));
            }
        } else if (has(sides[0], open.charAt(0))) {
            for (int home : homes()) {
                set.put(open.charAt(0), home);
                findFits(sides, open.substring(1), set, fits);
            }
            set.remove(open.charAt(0));
        } else {
            findFits(sides, open.substring(1), set, fits);
        }
    }

    private static boolean has(Tree tree, char sign) {
        return tree.sign == sign || tree.parts.stream().anyMatch(part -> has(part, sign));
    }

    private String ask(String call, Tree term) {
        take();
        Integer home = look(term, Map.of());
        if (home == null) {
            return "-1";
        }
        if (call.equals("members")) {
            return "" + nodes.values().stream().filter(home::equals).count();
        }
        Price price = priceAll().get(home);
        if (price.cost.compareTo(MOST_COST) > 0) {
            return "-3";
        }
        if (call.equals("cost")) {
            return price.cost.toString();
        }
        if (price.term == null) {
            return "-4";
        }
        text = price.term;
        return "" + text.length();
    }

    private Map<Integer, Price> priceAll() {
        Map<Integer, Price> known = new HashMap<>();
        boolean better = true;
        while (better) {
            better = false;
            for (Map.Entry<List<Object>, Integer> entry : nodes.entrySet()) {
                Price price = priceOf(entry.getKey(), known);
                if (price != null && price.isBefore(known.get(entry.getValue()))) {
                    known.put(entry.getValue(), price);
                    better = true;
                }
            }
        }
        return known;
    }

    private Price priceOf(List<Object> node, Map<Integer, Price> known) {
        char sign = (Character) node.get(0);
        Price sum = new Price(BigInteger.valueOf(prices.get(sign)), BigInteger.ONE, "" + sign);
        for (Object part : node.subList(1, node.size())) {
            Price price = known.get(part);
            if (price == null) {
                return null;
            }
            String term = sum.term == null || price.term == null ? null : sum.term + price.term;
            sum = new Price(sum.cost.add(price.cost), sum.signs.add(price.signs),
                    term == null || term.length() > 60 ? null : term);
        }
        return sum;
    }
}
