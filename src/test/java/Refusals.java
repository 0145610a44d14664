import java.util.ArrayList;
import java.util.List;

/** 'Nothing changes then': an object that refused a call answers all later ones as if it had not had it. */
final class Refusals {
    private static final int MOST_CALLS = 512;
    private static final int MOST_CONTAINERS = 10;
    private static final int MOST_ITERATORS = 4;
    private static final int MARK = 424242;

    private Refusals() {
    }

    static void check(String title, List<Call> before, Call refused) {
        Probe without = new Probe(before);
        Probe with = new Probe(before);
        with.refuse(refused);
        String what = title + ": nothing changes behind the refused " + refused;
        Script.compare(what, firstOther(with.tellAll(), without.tellAll()), "");
        for (int container = 0; container < MOST_CONTAINERS; container++) {
            watch(what, before, refused, container);
        }
    }

    private static String firstOther(List<String> with, List<String> without) {
        for (int i = 0; i < Math.min(with.size(), without.size()); i++) {
            if (!with.get(i).equals(without.get(i))) {
                return with.get(i) + " instead of " + without.get(i);
            }
        }
        return "";
    }

    /** A change that shows nowhere else still makes an iterator stale. */
    private static void watch(String what, List<Call> before, Call refused, int container) {
        Probe probe = new Probe(before);
        int watcher = refused.arguments()[0] == 3 ? 2 : 3;
        if (probe.answer(new Call("open", watcher, container)).equals("ok")) {
            probe.refuse(refused);
            String left = probe.answer(new Call("left", watcher));
            Script.compare(what + ", no change of " + container, left.startsWith("throws") ? left : "", "");
        }
    }

    /** An object of its own that may be changed by the questions, as both of a pair get the same ones. */
    private static final class Probe {
        private final ContainerKit kit = new ContainerKit();
        private final List<String> told = new ArrayList<>();
        private int calls = 0;

        Probe(List<Call> before) {
            for (Call call : before) {
                answer(call);
            }
        }

        /** What an object answers behind its 512th call is free; one call is kept for the refused one. */
        String answer(Call call) {
            calls++;
            return calls < MOST_CALLS ? call.answer(kit) : "free";
        }

        /** Not counted, so that both of a pair come to their last call at the same question. */
        void refuse(Call refused) {
            refused.answer(kit);
        }

        private String tell(String name, int... arguments) {
            Call call = new Call(name, arguments);
            String answer = answer(call);
            told.add(call + " " + answer);
            return answer;
        }

        List<String> tellAll() {
            for (int container = 0; container <= MOST_CONTAINERS; container++) {
                tell("kind", container);
                tell("size", container);
                tell("room", container);
            }
            for (int iterator = 0; iterator < MOST_ITERATORS; iterator++) {
                tellIterator(iterator);
            }
            for (int container = 0; container < MOST_CONTAINERS; container++) {
                tellContainer(container);
            }
            return told;
        }

        private void tellIterator(int iterator) {
            tell("left", iterator);
            tell("assign", iterator, MARK + iterator);
            tell("next", iterator, 1);
            tell("next", iterator, 0);
        }

        private void tellContainer(int container) {
            if (tell("open", 0, container).equals("ok")) {
                String number = tell("next", 0, 1);
                while (isNumber(number)) {
                    tell("assign", 0, MARK);
                    number = tell("next", 0, 1);
                }
            } else if (tell("kind", container).equals("5")) {
                tellHeap(container);
            }
        }

        private void tellHeap(int container) {
            String number = tell("remove", container, 0);
            while (isNumber(number)) {
                number = tell("remove", container, 0);
            }
        }

        private static boolean isNumber(String answer) {
            return !answer.startsWith("throws") && !answer.equals("free");
        }
    }
}
