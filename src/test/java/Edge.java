import java.util.List;

/** Tries calls just inside and just outside the edges that the document names, on houses that are made by calls. */
final class Edge {
    /** A call that answers a number. */
    interface Asking {
        int on(SlipHouse house);
    }

    /** A call that answers true or false. */
    interface Trying {
        boolean on(SlipHouse house);
    }

    private Edge() {
    }

    /** The call is taken, and answers this. */
    static void some(String what, Houses.Calls making, Asking call, int due) {
        Check.due(what, call.on(Houses.made(making)), due);
    }

    static void yes(String what, Houses.Calls making, Trying call) {
        Check.due(what, call.on(Houses.made(making)), true);
    }

    /** The call is refused and changes nothing, the tape neither. */
    static void none(String what, Houses.Calls making, Asking call) {
        asks(what, making, call, SlipHouse.NONE);
    }

    static void no(String what, Houses.Calls making, Trying call) {
        Check.due(what, call.on(Houses.made(making)), false);
        unchanged(what, making, making.then(call::on));
    }

    /** The call is refused and empties the tape, but changes nothing else. */
    static void emptied(String what, Houses.Calls making, Asking call) {
        Houses.Calls tried = making.then(call::on);
        Check.due(what, call.on(Houses.made(making)), SlipHouse.NONE);
        Check.due(what + ": bytes of the tape", Houses.made(tried).count(12), 0);
        alike(what, Reading.of(tried), Reading.of(making));
    }

    /** The call answers this and changes nothing. */
    static void asks(String what, Houses.Calls making, Asking call, int due) {
        Check.due(what, call.on(Houses.made(making)), due);
        unchanged(what, making, making.then(call::on));
    }

    /** Whether the houses that are made in these two ways can't be told from one another. */
    static void unchanged(String what, Houses.Calls making, Houses.Calls tried) {
        alike(what, Reading.ofTape(tried), Reading.ofTape(making));
        alike(what, Reading.of(tried), Reading.of(making));
    }

    private static void alike(String what, List<String> got, List<String> want) {
        Check.due(what + ": answers afterwards", got.size(), want.size());
        for (int i = 0; i < Math.min(got.size(), want.size()); i++) {
            if (!got.get(i).equals(want.get(i))) {
                Check.due(what + ": an answer afterwards", got.get(i), want.get(i));
                return;
            }
        }
    }
}
