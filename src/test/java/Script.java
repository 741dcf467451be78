import java.util.ArrayList;
import java.util.Arrays;
import java.util.List;

/**
 * Tests written as text: a call a line, and behind '=' the answer that is due.
 *
 * <pre>
 * new 2 4                        a new object, which the lines below it are about
 * begin 3 = 0
 * read 0 {-1 48 MAX} = IndexOutOfBoundsException      a call for each of these
 * page 0 1 = 0 NONE 1 1          all that page() tells of it: FRAME, SECTOR, HOLDERS, DIRTY
 * frame 0 = 1 0 2                of a FRAME: USED, the least PROCESS, the number of its PAGES
 * frame 0 {16..18} = 7 0 0
 * hand = 1                       look(3), by the names in LOOKS
 * </pre>
 *
 * Behind every call that is to be refused (an exception, false or NONE is due)
 * the object must show all that it showed ahead of it; and at the end of a run
 * all that it would show if the run had had none of the calls that only ask.
 */
final class Script {
    /** The document promises nothing of what an object answers behind these. */
    private static final int MOST_CALLS = 512;
    private static final List<String> LOOKS = List.of("processes", "freeFrames", "freeSectors", "hand", "bodies",
        "dirty", "accesses", "taken", "brought", "storings", "copies");

    private static final List<String> ASKING = List.of("page", "frame", "stored", "look");

    private static int sentences = 0;
    private static int wrong = 0;

    private record Call(String name, int[] args, String due, boolean isRefused) {
        boolean onlyAsks() {
            return ASKING.contains(name);
        }

        String on(PagerHouse x) {
            try {
                return answer(x);
            } catch (Throwable e) {
                // The very class: one below it would be the machine's own exception.
                return e.getClass().getName().replace("java.lang.", "");
            }
        }

        private String answer(PagerHouse x) {
            switch (name) {
                case "begin": return "" + x.begin(args[0]);
                case "fork": return "" + x.fork(args[0]);
                case "end": return "" + x.end(args[0]);
                case "read": return "" + x.read(args[0], args[1]);
                case "write": return "" + x.write(args[0], args[1], args[2]);
                case "drop": return "" + x.drop(args[0], args[1]);
                case "flush": return "" + x.flush();
                case "page": return "" + x.page(args[0], args[1], args[2]);
                case "frame": return "" + x.frame(args[0], args[1]);
                case "stored": return "" + x.stored(args[0], args[1]);
                case "look": return "" + x.look(args[0]);
                default: throw new IllegalArgumentException("a test without sense: " + name);
            }
        }

        String told() {
            StringBuilder text = new StringBuilder(name).append('(');
            for (int i = 0; i < args.length; i++) {
                text.append(i == 0 ? "" : ", ").append(args[i]);
            }
            return text.append(')').toString();
        }
    }

    private record Run(int frames, int sectors, List<Call> calls) {
        PagerHouse begun(int calls) {
            PagerHouse x = new PagerHouse(frames, sectors);
            for (Call call : this.calls.subList(0, calls)) {
                call.on(x);
            }
            return x;
        }
    }

    private Script() {
    }

    /** Holds the program against one sentence of the document. */
    static void sentence(String sentence, String... texts) {
        sentences++;
        for (Run run : runs(String.join("\n", texts))) {
            String fault = fault(run);
            if (fault != null) {
                wrong++;
                System.out.println(sentence + "\n    new PagerHouse(" + run.frames + ", " + run.sectors + "), " + fault);
            }
        }
    }

    static void finish() {
        System.out.println(sentences + " sentences, " + wrong + " runs not as due");
        if (wrong != 0) {
            System.exit(1);
        }
    }

    /** One line for each number, with the number for each %d in it, and for %a the first ADDRESS of that PAGE. */
    static String each(int from, int to, String line) {
        StringBuilder text = new StringBuilder();
        for (int i = from; i <= to; i++) {
            text.append(line.replace("%d", "" + i).replace("%a", "" + 16 * i)).append('\n');
        }
        return text.toString();
    }

    private static String fault(Run run) {
        int calls = run.calls.size();
        if (calls == 0 || calls > MOST_CALLS) {
            return "a test of " + calls + " calls";
        }
        String fault = wrongAnswer(run);
        for (int i = 0; i < calls && fault == null; i++) {
            Call call = run.calls.get(i);
            if (call.isRefused && !call.onlyAsks()) {
                String change = change(run, i, run, i + 1);
                fault = change == null ? null : "call " + (i + 1) + ": " + call.told() + " is refused, and " + change;
            }
        }
        if (fault == null) {
            Run unasked = new Run(run.frames, run.sectors, run.calls.stream().filter(c -> !c.onlyAsks()).toList());
            String change = change(unasked, unasked.calls.size(), run, calls);
            fault = change == null ? null : "for the calls that only ask, " + change;
        }
        return fault;
    }

    private static String wrongAnswer(Run run) {
        PagerHouse x = run.begun(0);
        for (int i = 0; i < run.calls.size(); i++) {
            Call call = run.calls.get(i);
            String got = call.on(x);
            if (!got.equals(call.due)) {
                return "call " + (i + 1) + ": " + call.told() + " answered " + got + ", due is " + call.due;
            }
        }
        return null;
    }

    /** What the one run shows behind so many of its calls, and the other otherwise; or null. */
    private static String change(Run one, int ones, Run other, int others) {
        if (ones >= MOST_CALLS || others >= MOST_CALLS) {
            // No call is left to look with.
            return null;
        }
        List<Call> views = views(one);
        List<String> due = shown(one, ones, views);
        List<String> got = shown(other, others, views);
        for (int i = 0; i < views.size(); i++) {
            if (!got.get(i).equals(due.get(i))) {
                return views.get(i).told() + " is " + got.get(i) + " then, not " + due.get(i);
            }
        }
        return null;
    }

    /** The answers to all views, from as many objects as are needed to keep each within its calls. */
    private static List<String> shown(Run run, int calls, List<Call> views) {
        List<String> shown = new ArrayList<>();
        PagerHouse x = null;
        int left = 0;
        for (Call view : views) {
            if (left == 0) {
                x = run.begun(calls);
                left = MOST_CALLS - calls;
            }
            shown.add(view.on(x));
            left--;
        }
        return shown;
    }

    /** Every call that shows something of the object's state. */
    private static List<Call> views(Run run) {
        List<Call> views = new ArrayList<>();
        int frames = run.begun(0).look(1);
        int sectors = run.begun(0).look(2);
        addCalls(views, "look {0..10} = 0");
        addCalls(views, "frame {0.." + (frames - 1) + "} {0..2 16..31} = 0");
        addCalls(views, "page {0..7} {0..31} {0..3} = 0");
        if (sectors > 0) {
            addCalls(views, "stored {0.." + (sectors - 1) + "} {0..15} = 0");
        }
        return views;
    }

    private static List<Run> runs(String text) {
        List<Run> runs = new ArrayList<>();
        for (String line : text.split("\n")) {
            String bare = line.replaceAll("#.*", "").trim();
            if (bare.startsWith("new ")) {
                String[] words = bare.split(" +");
                runs.add(new Run(number(words[1]), number(words[2]), new ArrayList<>()));
            } else if (!bare.isEmpty()) {
                addCalls(runs.get(runs.size() - 1).calls, bare);
            }
        }
        return runs;
    }

    private static void addCalls(List<Call> calls, String line) {
        String[] sides = line.split(" *= *");
        String asked = inFull(sides[0]);
        int space = (asked + " ").indexOf(' ');
        List<int[]> rows = rows(asked.substring(space).trim());
        String[] dues = sides[1].split(" +");
        if (dues.length != 1 && dues.length != rows.size()) {
            throw new IllegalArgumentException("as many answers as calls, or one: " + line);
        }
        for (int i = 0; i < rows.size(); i++) {
            String due = dues[dues.length == 1 ? 0 : i];
            boolean isRefused = due.matches("NONE|false|.*Exception");
            boolean isNumber = due.matches("NONE|MIN|MAX");
            calls.add(new Call(asked.substring(0, space), rows.get(i), isNumber ? "" + number(due) : due, isRefused));
        }
    }

    private static String inFull(String asked) {
        if (LOOKS.contains(asked)) {
            return "look " + LOOKS.indexOf(asked);
        }
        int args = asked.replaceAll("\\{[^}]*}", "0").split(" +").length - 1;
        if (asked.startsWith("page ") && args == 2) {
            return asked + " {0..3}";
        }
        return asked.startsWith("frame ") && args == 1 ? asked + " {0..2}" : asked;
    }

    /** All rows of arguments that the text tells: a number, or several in braces, for each argument. */
    private static List<int[]> rows(String text) {
        List<int[]> rows = new ArrayList<>();
        rows.add(new int[0]);
        String rest = text;
        while (!rest.isEmpty()) {
            boolean isSet = rest.startsWith("{");
            int end = isSet ? rest.indexOf('}') : (rest + " ").indexOf(' ');
            List<int[]> longer = new ArrayList<>();
            for (int[] row : rows) {
                for (int number : numbers(rest.substring(isSet ? 1 : 0, end))) {
                    int[] more = Arrays.copyOf(row, row.length + 1);
                    more[row.length] = number;
                    longer.add(more);
                }
            }
            rows = longer;
            rest = rest.substring(isSet ? end + 1 : end).trim();
        }
        return rows;
    }

    private static List<Integer> numbers(String text) {
        List<Integer> numbers = new ArrayList<>();
        for (String word : text.trim().split(" +")) {
            String[] ends = word.split("\\.\\.");
            for (long i = number(ends[0]); i <= number(ends[ends.length - 1]); i++) {
                numbers.add((int) i);
            }
        }
        return numbers;
    }

    private static int number(String word) {
        switch (word) {
            case "NONE": return PagerHouse.NONE;
            case "MIN": return Integer.MIN_VALUE;
            case "MAX": return Integer.MAX_VALUE;
            default: return Integer.parseInt(word);
        }
    }
}
