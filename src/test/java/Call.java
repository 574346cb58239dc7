import java.util.Arrays;

/** One call of the face, by its name and its numbers, that can be made on the class and on the oracle. */
record Call(String name, int... args) {
    static final String[] NAMES = {
        "street", "slow", "way", "stop", "span", "price", "van", "shift", "look", "round", "when", "cost", "why",
        "where", "put", "pair", "take", "move", "cross", "turn", "build", "better", "least", "undo", "clear",
        "count", "lay", "tear", "row", "copy", "status"};

    /** A call as a line of words: its name and its numbers, LOW and HIGH the least and the greatest of all. */
    static Call of(String line) {
        String[] words = line.split(" ");
        int[] args = new int[words.length - 1];
        for (int k = 0; k < args.length; k++) args[k] = number(words[k + 1]);
        return new Call(words[0], args);
    }

    private static int number(String word) {
        if (word.equals("LOW")) return Integer.MIN_VALUE;
        if (word.equals("HIGH")) return Integer.MAX_VALUE;
        return Integer.parseInt(word);
    }

    int on(VanRounds x) {
        int[] a = Arrays.copyOf(args, 4);
        return switch (name) {
            case "street" -> x.street(a[0], a[1], a[2]);
            case "slow" -> x.slow(a[0], a[1], a[2], a[3]);
            case "way" -> x.way(a[0], a[1], a[2]);
            case "stop" -> x.stop(a[0], a[1], a[2], a[3]);
            case "span" -> x.span(a[0], a[1]);
            case "price" -> x.price(a[0], a[1]);
            case "van" -> x.van(a[0], a[1], a[2]);
            case "shift" -> x.shift(a[0], a[1]);
            case "look" -> x.look(a[0], a[1]);
            case "round" -> x.round(a[0], a[1]);
            case "when" -> x.when(a[0], a[1], a[2]);
            case "cost" -> x.cost(a[0]);
            case "why" -> x.why(a[0], a[1], a[2]);
            case "where" -> x.where();
            case "put" -> x.put(a[0], a[1], a[2]);
            case "pair" -> x.pair(a[0], a[1], a[2], a[3]);
            case "take" -> x.take(a[0]);
            case "move" -> x.move(a[0], a[1], a[2]);
            case "cross" -> x.cross(a[0], a[1], a[2], a[3]);
            case "turn" -> x.turn(a[0], a[1], a[2]);
            case "build" -> x.build();
            case "better" -> x.better(a[0]);
            case "least" -> x.least();
            case "undo" -> x.undo();
            case "clear" -> x.clear();
            case "count" -> x.count(a[0]);
            case "lay" -> x.lay(a[0]);
            case "tear" -> x.tear();
            case "row" -> x.row(a[0]);
            case "copy" -> x.copy(a[0], a[1], a[2]);
            case "status" -> x.status(a[0]);
            default -> throw new IllegalStateException(name);
        };
    }

    int on(Oracle x) {
        int[] a = Arrays.copyOf(args, 4);
        int answer = switch (name) {
            case "street" -> x.street(a[0], a[1], a[2]);
            case "slow" -> x.slow(a[0], a[1], a[2], a[3]);
            case "way" -> x.way(a[0], a[1], a[2]);
            case "stop" -> x.stop(a[0], a[1], a[2], a[3]);
            case "span" -> x.span(a[0], a[1]);
            case "price" -> x.price(a[0], a[1]);
            case "van" -> x.van(a[0], a[1], a[2]);
            case "shift" -> x.shift(a[0], a[1]);
            case "look" -> x.look(a[0], a[1]);
            case "round" -> x.round(a[0], a[1]);
            case "when" -> x.when(a[0], a[1], a[2]);
            case "cost" -> x.cost(a[0]);
            case "why" -> x.why(a[0], a[1], a[2]);
            case "where" -> x.where();
            case "put" -> x.put(a[0], a[1], a[2]);
            case "pair" -> x.pair(a[0], a[1], a[2], a[3]);
            case "take" -> x.take(a[0]);
            case "move" -> x.move(a[0], a[1], a[2]);
            case "cross" -> x.cross(a[0], a[1], a[2], a[3]);
            case "turn" -> x.turn(a[0], a[1], a[2]);
            case "build" -> x.build();
            case "better" -> x.better(a[0]);
            case "least" -> x.least();
            case "undo" -> x.undo();
            case "clear" -> x.clear();
            case "count" -> x.count(a[0]);
            case "lay" -> x.lay(a[0]);
            case "tear" -> x.tear();
            case "row" -> x.row(a[0]);
            case "copy" -> x.copy(a[0], a[1], a[2]);
            case "status" -> x.status(a[0]);
            default -> throw new IllegalStateException(name);
        };
        x.tally(answer);
        return answer;
    }

    @Override
    public String toString() {
        StringBuilder text = new StringBuilder(name).append('(');
        for (int k = 0; k < args.length; k++) text.append(k == 0 ? "" : ", ").append(args[k]);
        return text.append(')').toString();
    }
}
