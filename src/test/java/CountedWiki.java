/** A wiki whose calls are counted: no test may lean on what is answered behind the 512th. */
final class CountedWiki {
    static final int MOST_CALLS = 512;

    private final MacroWiki wiki = new MacroWiki();
    private int calls = 0;

    int callsLeft() {
        return MOST_CALLS - calls;
    }

    /** The answer as text; of an exception the name of its class, which has to be that one and none below it. */
    String answer(Script.Call call) {
        if (calls >= MOST_CALLS) {
            throw new AssertionError("a test makes more than 512 calls of one object: " + call);
        }
        calls++;
        try {
            return call.name().equals("approve")
                ? String.valueOf(wiki.approve(call.argument(0), call.argument(1)))
                : String.valueOf(number(call));
        } catch (RuntimeException | StackOverflowError thrown) {
            return thrown.getClass().getSimpleName();
        }
    }

    private int number(Script.Call call) {
        return switch (call.arguments().size()) {
            case 0 -> withNone(call.name());
            case 1 -> withOne(call.name(), call.argument(0));
            case 2 -> withTwo(call.name(), call.argument(0), call.argument(1));
            default -> withThree(call.name(), call.argument(0), call.argument(1), call.argument(2));
        };
    }

    private int withNone(String name) {
        return switch (name) {
            case "argument" -> wiki.argument();
            case "end" -> wiki.end();
            case "breached" -> wiki.breached();
            default -> throw new AssertionError("no call without arguments: " + name);
        };
    }

    private int withOne(String name, int a) {
        return switch (name) {
            case "letter" -> wiki.letter(a);
            case "callOn" -> wiki.callOn(a);
            case "when" -> wiki.when(a);
            case "anchor" -> wiki.anchor(a);
            case "redirect" -> wiki.redirect(a);
            case "version" -> wiki.version(a);
            case "rankOf" -> wiki.rankOf(a);
            case "force" -> wiki.force(a);
            case "reaches" -> wiki.reaches(a);
            case "extent" -> wiki.extent(a);
            case "standsFor" -> wiki.standsFor(a);
            case "links" -> wiki.links(a);
            case "broken" -> wiki.broken(a);
            case "firstBroken" -> wiki.firstBroken(a);
            case "linkedFrom" -> wiki.linkedFrom(a);
            case "breaches" -> wiki.breaches(a);
            default -> throw new AssertionError("no call with one argument: " + name);
        };
    }

    private int withTwo(String name, int a, int b) {
        return switch (name) {
            case "call" -> wiki.call(a, b);
            case "link" -> wiki.link(a, b);
            case "edit" -> wiki.edit(a, b);
            case "undo" -> wiki.undo(a, b);
            case "setRank" -> wiki.setRank(a, b);
            case "items" -> wiki.items(a, b);
            default -> throw new AssertionError("no call with two arguments: " + name);
        };
    }

    private int withThree(String name, int a, int b, int c) {
        return switch (name) {
            case "lock" -> wiki.lock(a, b, c);
            case "sortAt" -> wiki.sortAt(a, b, c);
            case "itemAt" -> wiki.itemAt(a, b, c);
            case "itemAnew" -> wiki.itemAnew(a, b, c);
            case "sourceAt" -> wiki.sourceAt(a, b, c);
            default -> throw new AssertionError("no call with three arguments: " + name);
        };
    }
}
