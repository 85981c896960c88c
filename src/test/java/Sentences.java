import java.util.ArrayList;
import java.util.List;
import java.util.function.IntUnaryOperator;
import java.util.function.Supplier;

/** Runs tests each of which stands for a sentence of the document, and tells the sentences that have none. */
final class Sentences {
    /** A call whose answer is a number. */
    interface Call {
        long on(ShipStores ship);
    }

    static final Class<IllegalArgumentException> ARGUMENT = IllegalArgumentException.class;
    static final Class<IllegalStateException> STATE = IllegalStateException.class;
    static final Class<IndexOutOfBoundsException> INDEX = IndexOutOfBoundsException.class;
    static final int NONE = ShipStores.NONE;

    private static final String CHANGES_NOTHING = "A call that throws an exception changes nothing.";
    private static final String FIRST_NAMED =
        "If several exceptions apply, the one that is named first in the throws clause is thrown.";
    /** How the sentences of the terms begin that name no case: the first one, headings, and where methods stand. */
    private static final String NAMES_NO_CASE = "The provisions of a ship: .*|[A-Z][a-z]+( [a-z]+){0,2}\\.|Ahead of the calls .*";

    private static final class Quote {
        final int promise;
        final String text;

        Quote(int promise, String text) {
            this.promise = promise;
            this.text = text;
        }
    }

    private static final class NotRefused extends RuntimeException {
        private static final long serialVersionUID = 1;
    }

    private final Document document;
    private final List<Quote> quotes = new ArrayList<>();
    private final Checks checks = new Checks();
    private int promise;
    private String sentence;
    private int checksOfSentence;

    Sentences(Document document) {
        this.document = document;
    }

    void promise(int number) {
        promise = number;
    }

    /** A test of a sentence; what it throws counts as a failure, so that the tests behind it still run. */
    void says(String quote, Runnable test) {
        sentence = quote;
        checksOfSentence = 0;
        quotes.add(new Quote(promise, quote));
        if (!document.tells(promise, quote)) {
            checks.fail(name("the document does not say this"));
        }
        try {
            test.run();
        } catch (NotRefused stopped) {
            return;
        } catch (RuntimeException thrown) {
            checks.fail(name("threw " + thrown));
        }
        if (checksOfSentence == 0) {
            checks.fail(name("checks nothing"));
        }
    }

    void changesNothing(Runnable test) {
        says(CHANGES_NOTHING, test);
    }

    void firstNamed(Runnable test) {
        says(FIRST_NAMED, test);
    }

    void equal(String what, long got, long due) {
        checksOfSentence++;
        checks.equal(name(what), got, due);
    }

    /** The properties from 0 on, as many as are due. */
    void row(String what, IntUnaryOperator property, int... due) {
        for (int index = 0; index < due.length; index++) {
            equal(what + ", " + index, property.applyAsInt(index), due[index]);
        }
    }

    /** The call throws just this exception; if not, the test of the sentence stops, as a farther argument may hang. */
    void thrown(String what, ShipStores ship, Class<? extends RuntimeException> due, Call call) {
        checksOfSentence++;
        Class<?> got = null;
        try {
            call.on(ship);
        } catch (RuntimeException exception) {
            got = exception.getClass();
        }
        checks.holds(name(what + " threw " + got + ", due is " + due), got == due);
        if (got != due) {
            throw new NotRefused();
        }
    }

    /** The call throws just this exception, and its ship is as another one that was not called. */
    void refused(String what, Supplier<ShipStores> begin, Class<? extends RuntimeException> due, Call call) {
        ShipStores ship = begin.get();
        thrown(what, ship, due, call);
        alike(what, ship, begin.get());
    }

    /** After the call and undo, the ship is as another one that was not called; fewer than 6 states are saved. */
    void undone(String what, Supplier<ShipStores> begin, Call call) {
        ShipStores ship = begin.get();
        int saved = ship.count(9);
        call.on(ship);
        equal(what + ": saved states", ship.count(9), saved + 1);
        equal(what + ": undo", ship.undo(), saved);
        alike(what, ship, begin.get());
    }

    /** The call saves no state and changes no other thing. */
    void looksOnly(String what, Supplier<ShipStores> begin, Call call) {
        ShipStores ship = begin.get();
        call.on(ship);
        alike(what, ship, begin.get());
    }

    /** The two are alike now, and so are all the states that undo brings back. */
    private void alike(String what, ShipStores ship, ShipStores other) {
        equal(what + ": digest", ship.digest(), other.digest());
        for (int left = other.count(9) - 1; left >= 0; left--) {
            other.undo();
            equal(what + ": undo", ship.undo(), left);
            equal(what + ": digest with " + left + " saved states", ship.digest(), other.digest());
        }
    }

    private String name(String what) {
        return "promise " + promise + ", \"" + sentence + "\": " + what;
    }

    static int[] outside(int least, int most) {
        return new int[] {least - 1, most + 1, Integer.MIN_VALUE, Integer.MAX_VALUE};
    }

    /** Fails for each sentence of the document that no test stands for, and ends the program. */
    void end(String name) {
        for (String term : document.sentencesOf(0)) {
            if (!term.matches(NAMES_NO_CASE) && quotes.stream().noneMatch(quote -> term.contains(quote.text))) {
                checks.fail("no test stands for: " + term);
            }
        }
        for (int number = 1; number <= Document.PROMISES; number++) {
            int refusals = 0;
            for (String due : document.sentencesOf(number)) {
                requireTest(number, due);
                refusals += due.startsWith("Throws ") ? 1 : 0;
            }
            if (refusals > 0) {
                requireTest(number, CHANGES_NOTHING);
            }
            if (refusals > 1) {
                requireTest(number, FIRST_NAMED);
            }
        }
        checks.end(name);
    }

    private void requireTest(int number, String due) {
        if (quotes.stream().noneMatch(quote -> quote.promise == number && due.contains(quote.text))) {
            checks.fail("no test stands for promise " + number + ": " + due);
        }
    }
}
