import java.util.HashMap;
import java.util.List;
import java.util.Map;

/** Checks of the edges that the document names: calls, behind a way of calls, that are allowed or refused there. */
final class Edge {
    private static final Map<String, List<String>> PROBES = new HashMap<>();

    private Edge() {
    }

    /** The calls behind the way have the answers that are due, in their order. */
    static void answers(String what, String way, String calls, String... due) {
        Voxelmint world = walked(what, way);
        List<Call> asked = Call.readAll(calls);
        Check.due(what + ": answers told for " + calls, asked.size(), due.length);
        for (int i = 0; i < due.length; i++) {
            Check.due(what + ", behind " + way + ": " + asked.get(i).told(), asked.get(i).answerOf(world), due[i]);
        }
    }

    /** The call behind the way throws the exception, and nothing has changed behind it. */
    static void refuses(String what, String way, String call, String exception) {
        Call refused = Call.readAll(call).get(0);
        String told = what + ", behind " + way + ": " + call;
        Check.due(told, refused.answerOf(walked(what, way)), exception);
        List<String> before = PROBES.computeIfAbsent(way, text -> Probe.ask(Call.readAll(text)));
        List<String> behind = Probe.ask(Call.readAll(way + ";" + call));
        Check.due(told + ": as many answers as before", behind.size(), before.size());
        Check.due(told + ": nothing has changed", firstThatDiffers(behind, before), "");
    }

    /** The call is refused with one less than the least, one more than the greatest, and the ends of int, for '?'. */
    static void refusesOutside(String what, String way, String call, int least, int greatest, String exception) {
        refuses(what, way, call.replace("?", Integer.toString(least - 1)), exception);
        refuses(what, way, call.replace("?", Integer.toString(greatest + 1)), exception);
        refuses(what, way, call.replace("?", "MIN"), exception);
        refuses(what, way, call.replace("?", "MAX"), exception);
    }

    /** An object that has gone the way, of which no call may be refused. */
    private static Voxelmint walked(String what, String way) {
        Voxelmint world = new Voxelmint();
        for (Call call : Call.readAll(way)) {
            String answer = call.answerOf(world);
            boolean isNumber = answer.matches("-?[0-9]+");
            Check.due(what + ", on the way " + way + ": " + call.told() + " -> " + answer, isNumber, true);
        }
        return world;
    }

    private static String firstThatDiffers(List<String> answers, List<String> others) {
        for (int i = 0; i < answers.size() && i < others.size(); i++) {
            if (!answers.get(i).equals(others.get(i))) {
                return answers.get(i) + " instead of " + others.get(i);
            }
        }
        return "";
    }
}
