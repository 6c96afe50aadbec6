import java.util.function.Supplier;

/** Asks for the edges that the document names, each of an object of its own, all of which begin alike. */
final class Edges {
    interface Call {
        long on(AgainAgain x);
    }

    private final Due due;
    private final Supplier<AgainAgain> begin;

    Edges(Due due, Supplier<AgainAgain> begin) {
        this.due = due;
        this.begin = begin;
    }

    /** What the last call answers; those ahead of it lead there, and none of them may be refused. */
    void is(String sentence, long want, Call... calls) {
        AgainAgain x = ledTo(sentence, calls);
        due.is(sentence, calls[calls.length - 1].on(x), want);
    }

    /** The same of a call that is refused or that only asks: besides, nothing has changed by it. */
    void stays(String sentence, long want, Call... calls) {
        AgainAgain x = ledTo(sentence, calls);
        due.is(sentence, calls[calls.length - 1].on(x), want);
        boolean same = Snapshot.of(x).equals(Snapshot.of(ledTo(sentence, calls)));
        due.holds("changes nothing: " + sentence, same);
    }

    private AgainAgain ledTo(String sentence, Call... calls) {
        AgainAgain x = begin.get();
        for (int i = 0; i < calls.length - 1; i++) {
            due.holds("call " + i + " on the way is not refused: " + sentence, calls[i].on(x) >= 0);
        }
        return x;
    }
}
