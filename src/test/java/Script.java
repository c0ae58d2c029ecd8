import java.util.regex.Matcher;
import java.util.regex.Pattern;

/**
 * Runs of calls written as text: "own(0) = 2" is a call with the answer that is due, "own(3) ! IAE" one with the
 * exception that is due, "attach(0, 0, 1)" one that answers nothing. Calls are parted by semicolons. After each call
 * that is refused it is looked at whether all is as it was (but that an outdated or fenced off broker is OUT).
 */
final class Script {
    private static final Pattern LINE = Pattern.compile("(\\w+\\([^)]*\\))\\s*(?:[=!]\\s*(\\S+))?");

    private int wrong;
    private int calls;
    private int refusals;

    void run(String name, Run run, String... lines) {
        for (String line : lines) {
            for (String text : line.split(";")) {
                if (!text.isBlank()) {
                    check(name, run, text.trim());
                }
            }
        }
    }

    void end() {
        System.out.println(wrong == 0 ? calls + " calls answered as due, " + refusals + " of them refused" : wrong + " answers are not as due");
        if (wrong != 0) {
            System.exit(1);
        }
    }

    private void check(String name, Run run, String text) {
        Matcher matcher = LINE.matcher(text);
        if (!matcher.matches()) {
            throw new IllegalArgumentException("not a call: " + text);
        }
        Call call = Call.of(matcher.group(1));
        String due = matcher.group(2) == null ? Call.NOTHING : matcher.group(2);
        if (text.contains("!") != Call.isRefusal(due)) {
            throw new IllegalArgumentException("not an answer: " + text);
        }
        check(name, run, call, due);
    }

    void check(String name, Run run, Call call, String due) {
        calls++;
        Run before = Call.isRefusal(due) ? run.again() : null;
        String got = run.make(call);
        if (!got.equals(due)) {
            report(name + ": " + call + " -> " + got + ", due is " + due);
        } else if (before != null) {
            refusals++;
            lookAfterwards(name, before, run, call, due);
        }
    }

    void checkNot(String name, Run run, Call call, String notDue) {
        calls++;
        if (run.make(call).equals(notDue)) {
            report(name + ": " + call + " -> " + notDue);
        }
    }

    private void lookAfterwards(String name, Run before, Run run, Call call, String due) {
        if (due.equals("UOE")) {
            before.after("run(b, false); run(b, true)".replace("b", "" + call.firstArgument()));
        }
        String difference = Sight.difference(run, before);
        if (difference != null) {
            report(name + ": after the refused " + call + ": " + difference);
        }
    }

    private void report(String text) {
        wrong++;
        System.out.println(text);
    }
}
