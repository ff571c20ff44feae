/** Promises 1 to 3 and 42: a new object, the tape, counts. */
final class TapeTest {
    public static void main(String[] args) {
        newObject();
        feeding();
        ending();
        counts();
        Check.finish("TapeTest");
    }

    private static void newObject() {
        SundialTreaty x = new SundialTreaty();
        Check.eq("NONE", SundialTreaty.NONE, -1);
        int[] want = {0, 0, 0, 3, 2, 1, 0};
        for (int what = 0; what < want.length; what++) {
            Check.eq("count(" + what + ") of a new one", x.count(what), want[what]);
        }
        Check.eq("fault() of a new one", x.fault(), 0);
        Check.eq("undo() of a new one", x.undo(), -1);
        Check.eq("said(-1) of a new one", x.said(-1), -1);
        Check.eq("told(0) of a new one", x.told(0), -1);
        Check.eq("valley() of an empty tape", x.valley(), 0);
        Check.eq("book(1) of an empty tape", x.book(1), -1);
        Check.eq("sentence() of an empty tape", x.sentence(), -1);
        Check.eq("its fault", x.fault(), 1);
    }

    private static void feeding() {
        SundialTreaty x = new SundialTreaty();
        for (int i = 1; i <= 47; i++) {
            Check.eq("feed " + i, x.feed(-1, 2, 3, 4, 5), 20 * i);
        }
        Check.eq("feed above 940", x.feed(0, 0, 0, 0, 0), -1);
        Check.eq("bytes then", x.count(6), 940);
        Check.yes("end(921)", x.end(921));
        Check.eq("feed above 940 from 921", x.feed(0, 0, 0, 0, 0), -1);
        Check.yes("end(920)", x.end(920));
        Check.eq("feed to 940", x.feed(0, 0, 0, 0, 0), 940);
        // The highest byte comes first.
        SundialTreaty y = Check.valley("town a 0;");
        Check.eq("feed", y.feed(0x0064ffff, -1, 0, 0, 0), 20);
        Check.yes("end(2)", y.end(2));
        Check.eq("shadows of town 0 at 100", y.shadows(), 0);
        SundialTreaty z = new SundialTreaty();
        z.feed(('t' << 24) | ('o' << 16) | ('w' << 8) | 'n', (' ' << 24) | ('a' << 16) | (' ' << 8) | '1', ';' << 24, 0, 0);
        z.end(9);
        Check.eq("valley fed by hand", z.valley(), 1);
    }

    private static void ending() {
        SundialTreaty x = new SundialTreaty();
        Check.yes("end(0) of an empty tape", x.end(0));
        Check.no("end(1) of an empty tape", x.end(1));
        Check.no("end(-1)", x.end(-1));
        x.feed(1, 2, 3, 4, 5);
        Check.no("end(21)", x.end(21));
        Check.yes("end(20)", x.end(20));
        Check.yes("end(7)", x.end(7));
        Check.eq("bytes", x.count(6), 7);
        Check.no("end(8)", x.end(8));
        Check.no("end(least)", x.end(Integer.MIN_VALUE));
        Check.eq("bytes stay", x.count(6), 7);
        Check.eq("feed behind them", x.feed(1, 2, 3, 4, 5), 27);
    }

    private static void counts() {
        SundialTreaty x = Check.valley("town a 1;town b 2;term a 0 1 fast 0;train t a b 0 1;"
                + "train u b a 0 1;train v a b 0 1;limit 10;change 0;frost 12;");
        int[] want = {2, 1, 3, 10, 0, 12, 0};
        for (int what = 0; what < want.length; what++) {
            Check.eq("count(" + what + ")", x.count(what), want[what]);
        }
        Check.eq("count(7)", x.count(7), -1);
        Check.eq("count(-1)", x.count(-1), -1);
        x.feed(0, 0, 0, 0, 0);
        Check.eq("count(6) when fed", x.count(6), 20);
        x.end(0);
        Check.eq("an empty valley", x.valley(), 0);
        Check.eq("count(3) is as without", x.count(3), 3);
        Check.eq("count(4) is as without", x.count(4), 2);
        Check.eq("count(5) is as without", x.count(5), 1);
    }
}
