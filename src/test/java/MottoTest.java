/** Promises 32 and 33: mottoes. */
final class MottoTest {
    public static void main(String[] args) {
        SundialTreaty x = Check.valley("town a 1 fast 5;town bcdefgh 2 slow 10;town cor 3;town wxyz 4 slow 30;");
        Check.eq("byteAt(0) ahead of any", x.byteAt(0), -1);
        motto(x, 0, "a counts fast 5");
        motto(x, 1, "bcdefgh counts slow 10");
        motto(x, 2, "cor counts right");
        motto(x, 3, "wxyz counts slow 30");
        SundialTreaty y = Check.valley("town a 1 fast 1;town b 2 slow 9;town c 3 fast 19;town d 4 fast 29;town e 5 slow 20;");
        motto(y, 0, "a counts fast 1");
        motto(y, 1, "b counts slow 9");
        motto(y, 2, "c counts fast 19");
        motto(y, 3, "d counts fast 29");
        motto(y, 4, "e counts slow 20");
        x.shade(1);
        x.shade(2);
        motto(x, 1, "bcdefgh counts slow 10 in the shade");
        motto(x, 2, "cor counts right in the shade");
        motto(x, 0, "a counts fast 5");
        x.bend(2, -1);
        motto(x, 2, "cor counts slow 1 in the shade");
        Check.eq("motto(4)", x.motto(4), -1);
        Check.eq("motto(-1)", x.motto(-1), -1);
        Check.eq("the latest one stays", x.byteAt(11), 's');
        x.freeze();
        Check.eq("the latest one stays", x.byteAt(11), 's');
        Check.tape(x, "");
        x.valley();
        Check.eq("the latest one stays by a new valley", x.byteAt(0), 'c');
        Check.finish("MottoTest");
    }

    static void motto(SundialTreaty x, int t, String want) {
        Check.eq("motto(" + t + ")", x.motto(t), want.length());
        for (int i = 0; i < want.length(); i++) {
            Check.eq("byteAt(" + i + ") of " + want, x.byteAt(i), want.charAt(i));
        }
        Check.eq("byteAt behind " + want, x.byteAt(want.length()), -1);
        Check.eq("byteAt(-1)", x.byteAt(-1), -1);
        Check.eq("byteAt(1000)", x.byteAt(1000), -1);
    }
}
