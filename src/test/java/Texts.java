/** The three kinds of texts, read in a valley in which some names are told already. */
enum Texts {
    VALLEY(900, "limit 4;", 1),
    BOOK(400, "freeze;", -1),
    SENTENCE(200, "right", 1);

    /** Towns 0 to 2 and a train; the first one is in breach on all days. */
    static final String HOME = "town a 20 fast 5;town b 30 slow 4;town c 26;term a 0 399 fast 4;train k a b 0 1;limit 10;";

    final int most;
    /** A text of the kind without a fault, and what reading it answers. */
    final String good;
    final int goodAnswer;

    Texts(int most, String good, int goodAnswer) {
        this.most = most;
        this.good = good;
        this.goodAnswer = goodAnswer;
    }

    int read(SundialTreaty x, String text) {
        Check.tape(x, text);
        switch (this) {
            case VALLEY:
                return x.valley();
            case BOOK:
                return x.book(1);
            default:
                return x.sentence();
        }
    }

    /** The text must be read, with that answer, in a valley that tells the names of HOME. */
    SundialTreaty good(String text, int want) {
        SundialTreaty x = Check.valley(HOME);
        Check.eq(name() + " " + Check.brief(text), read(x, text), want);
        Check.eq("fault() of " + Check.brief(text), x.fault(), 0);
        Check.eq("count(6) behind " + Check.brief(text), x.count(6), 0);
        return x;
    }

    /** The text must be refused, with a fault of that kind at that place, and all else must stay. */
    void fault(String text, int kind, int place) {
        SundialTreaty x = Check.valley(HOME);
        Check.tape(x, "fast > 3");
        x.sentence();
        String before = Check.all(x);
        Check.eq(name() + " " + Check.brief(text), read(x, text), (this == BOOK ? -2 : -1) - place);
        Check.eq("fault() of " + Check.brief(text), x.fault(), kind);
        Check.eq("count(6) behind " + Check.brief(text), x.count(6), 0);
        Check.yes("all stays behind " + Check.brief(text), Check.all(x).equals(before));
    }

    /** Each number from 0 to 999 behind the one text and ahead of the other: good only from least to most. */
    void range(String ahead, String behind, int least, int most, int lines) {
        for (int n = 0; n < 1000; n++) {
            if (n >= least && n <= most) {
                good(ahead + n + behind, lines);
            } else {
                fault(ahead + n + behind, 2, ahead.length());
            }
        }
    }

    static String towns(int n) {
        StringBuilder all = new StringBuilder();
        for (int i = 0; i < n; i++) {
            all.append("town ").append((char) ('a' + i)).append(" 1;");
        }
        return all.toString();
    }

    static String terms(int n) {
        return "term a 0 0 fast 1;".repeat(n);
    }

    static String trains(int n) {
        StringBuilder all = new StringBuilder();
        for (int i = 0; i < n; i++) {
            all.append("train k").append((char) ('a' + i)).append(" a b 0 1;");
        }
        return all.toString();
    }
}
