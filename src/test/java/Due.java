/** What the project's tests share: an object under test, answers compared with those due. */
final class Due {
    BerthAges x = new BerthAges();
    private final String name;
    private int wrong = 0;

    Due(String name) {
        this.name = name;
    }

    void anew() {
        x = new BerthAges();
    }

    void is(String call, long got, long want) {
        if (got != want) {
            wrong++;
            System.out.println(name + ": " + call + " answered " + got + ", due is " + want);
        }
    }

    /** An answer of 1 whose number is told by asked(). */
    void tells(String call, int got, int want) {
        is(call, got, 1);
        is(call + " asked()", x.asked(), want);
    }

    /** An answer, and what asked() tells beside it. */
    void both(String call, int got, int want, int wantAsked) {
        is(call, got, want);
        is(call + " asked()", x.asked(), wantAsked);
    }

    /** A finding: answered, told by finding() and counted by findings(). */
    void finds(String call, java.util.function.IntSupplier what, int finding) {
        int before = x.findings(finding);
        is(call, what.getAsInt(), BerthAges.FINDING);
        is(call + " finding()", x.finding(), finding);
        is(call + " findings()", x.findings(finding), before + 1);
    }

    void write(int t, String signs) {
        x.text(t, signs.length());
        for (int i = 0; i < signs.length(); i++) {
            x.put(t, i, signs.charAt(i));
        }
    }

    /** A new object in the harbour that a text tells. */
    void harbour(String signs) {
        anew();
        write(0, signs);
        if (x.harbour(0) < 0) {
            is("harbour " + signs, x.fault(0), BerthAges.NONE);
        }
    }

    void row(int r, int... places) {
        x.row(r, places.length);
        for (int i = 0; i < places.length; i++) {
            x.lay(r, i, places[i]);
        }
    }

    void rowIs(String call, int r, int... places) {
        for (int i = 0; i < places.length; i++) {
            tells(call + " place " + i, x.at(r, i), places[i]);
        }
        is(call + " has no more places", x.at(r, places.length), BerthAges.FINDING);
    }

    /** Ends the test: exit code 1 if an answer was not the one due. */
    void end() {
        System.out.println(name + ": " + (wrong == 0 ? "all answers are as due" : wrong + " answers are not as due"));
        if (wrong != 0) {
            System.exit(1);
        }
    }
}
