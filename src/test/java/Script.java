import java.util.ArrayList;
import java.util.List;
import java.util.Map;

/**
 * Calls of a wiki told as text, a line or a part between two ';' each: "3 x letter(7)", "edit(0, 1): LOCKED",
 * "items(12, 0): INDEX". Behind the ':' stands the answer that is due; INDEX, RANGE, STATE and NO_ITEM are exceptions.
 * "row(1, 5): L3@1 A4@0 K98@0" tells all that the page 1 shows with 5: letter 3 from the page 1, anchor 4 and the
 * link 98 from the page 0; it is read as the calls that ask for that, those just outside the row too.
 */
final class Script {
    static final int NONE = -1;

    /** A call; due is empty where any answer is due that is neither an exception nor a refusal. */
    record Call(String name, List<Integer> arguments, String due) {
        int argument(int index) {
            return arguments.get(index);
        }

        boolean isOfDraft() {
            return List.of("letter", "argument", "call", "callOn", "when", "end", "anchor", "link", "redirect")
                .contains(name);
        }

        boolean isQuestion() {
            return !isOfDraft() && !List.of("edit", "undo", "approve", "lock", "setRank").contains(name);
        }

        boolean isAnsweredBy(String answer) {
            return due.isEmpty() ? !isRefusedBy(answer) && !isThrown(answer) : due.equals(answer);
        }

        /** An approve that changes nothing counts as refused. */
        boolean isRefusedBy(String answer) {
            return switch (name) {
                case "edit", "undo", "lock" -> answer.startsWith("-");
                case "approve" -> answer.equals("false");
                default -> false;
            };
        }

        @Override
        public String toString() {
            String inside = arguments.toString();
            return name + "(" + inside.substring(1, inside.length() - 1) + ")";
        }
    }

    /** The numbers are written out, so that no test follows the class where a constant of it is wrong. */
    private static final Map<String, String> WORDS = Map.ofEntries(
        Map.entry("NONE", "-1"), Map.entry("LOCKED", "-2"), Map.entry("RING", "-3"), Map.entry("DEEP", "-4"),
        Map.entry("LONG", "-5"), Map.entry("REACH", "-6"),
        Map.entry("LETTER", "0"), Map.entry("ANCHOR", "1"), Map.entry("LINK", "2"),
        Map.entry("INDEX", "IndexOutOfBoundsException"), Map.entry("RANGE", "IllegalArgumentException"),
        Map.entry("STATE", "IllegalStateException"), Map.entry("NO_ITEM", "NoSuchElementException"));

    private Script() { }

    static boolean isThrown(String answer) {
        return answer.endsWith("Exception") || answer.endsWith("Error");
    }

    static List<Call> read(String text) {
        List<Call> calls = new ArrayList<>();
        for (String part : text.split("[\n;]")) {
            if (!part.isBlank()) {
                readPart(part.strip(), calls);
            }
        }
        return calls;
    }

    private static void readPart(String part, List<Call> calls) {
        int times = 1;
        String call = part;
        if (part.matches("\\d+ x .*")) {
            times = Integer.parseInt(part.substring(0, part.indexOf(' ')));
            call = part.substring(part.indexOf('x') + 2);
        }
        int open = call.indexOf('(');
        int close = call.indexOf(')');
        if (open < 0 || close < open) {
            throw new AssertionError("no call: " + part);
        }
        String behind = call.substring(close + 1).strip();
        String due = behind.isEmpty() ? "" : behind.substring(1).strip();
        List<Integer> arguments = readArguments(call.substring(open + 1, close));
        for (int i = 0; i < times; i++) {
            if (call.startsWith("row(")) {
                addRow(arguments, due, calls);
            } else {
                calls.add(new Call(call.substring(0, open), arguments, plain(due)));
            }
        }
    }

    private static List<Integer> readArguments(String inside) {
        List<Integer> arguments = new ArrayList<>();
        for (String argument : inside.isBlank() ? new String[0] : inside.split(",")) {
            arguments.add(Integer.parseInt(plain(argument.strip())));
        }
        return arguments;
    }

    private static String plain(String word) {
        return WORDS.getOrDefault(word, word);
    }

    private static void addRow(List<Integer> arguments, String due, List<Call> calls) {
        int page = arguments.get(0);
        int letter = arguments.get(1);
        String[] items = due.isEmpty() ? new String[0] : due.split(" +");
        calls.add(new Call("items", arguments, String.valueOf(items.length)));
        for (int place = -1; place <= items.length; place++) {
            boolean inside = place >= 0 && place < items.length;
            String item = inside ? items[place] : "L0@0";
            String[] answers = {String.valueOf("LAK".indexOf(item.charAt(0))),
                item.substring(1, item.indexOf('@')), item.substring(1, item.indexOf('@')),
                item.substring(item.indexOf('@') + 1)};
            String[] names = {"sortAt", "itemAt", "itemAnew", "sourceAt"};
            for (int i = 0; i < names.length; i++) {
                String answer = inside ? answers[i] : "NoSuchElementException";
                calls.add(new Call(names[i], List.of(page, letter, place), answer));
            }
        }
    }

    // ---- scripts that are put together

    /** A line for each value, which stands where the pattern has a '#'. */
    static String each(String pattern, int... values) {
        StringBuilder lines = new StringBuilder();
        for (int value : values) {
            lines.append(pattern.replace("#", String.valueOf(value))).append('\n');
        }
        return lines.toString();
    }

    static int[] from(int first, int last) {
        int[] values = new int[last - first + 1];
        for (int i = 0; i < values.length; i++) {
            values[i] = first + i;
        }
        return values;
    }

    static String lines(String... parts) {
        return String.join("\n", parts) + "\n";
    }
}
