/** Promises 20 gather, 21 canHave, 22 bestGift. */
public final class WouldBeTest {
    private static final int[] NO_THINGS = {-1, 20, Integer.MIN_VALUE, Integer.MAX_VALUE};
    private static final Checks C = new Checks("WouldBeTest");

    public static void main(String[] args) {
        gather();
        canHave();
        canHaveWhateverLesserNumbersNeed();
        canHaveLimits();
        bestGift();
        bestGiftThatWouldFail();
        bestGiftThatIsNone();
        nothingHappens();
        C.end();
    }

    private static void fill(ThingMaker x, int thing) {
        Checks.fill(x, thing, 99999);
    }

    private static void gather() {
        ThingMaker x = Checks.with("d2=3a+b", "f=d+2c");
        for (int t : NO_THINGS) {
            C.due("gather(" + t + ", 1, 0)", -1, x.gather(t, 1, 0));
            C.due("gather(0, 1, " + t + ")", -1, x.gather(0, 1, t));
        }
        C.due("gather(-9, 1, 0)", -1, x.gather(-9, 1, 0));
        C.due("n 0", -1, x.gather(0, 0, -9));
        C.due("n 1000", -1, x.gather(0, 1000, -9));
        C.due("n -1", -1, x.gather(5, -1, 0));
        C.due("n 1", 1, x.gather(0, 1, -9));
        C.due("n 999", 999, x.gather(0, 999, 0));
        C.due("all", 14, x.gather(5, 3, -9));
        int[] due = {6, 2, 6, 0, 0, 0};
        for (int of = 0; of < 20; of++) {
            C.due("of " + of, of < due.length ? due[of] : 0, x.gather(5, 3, of));
        }
        x.wish(0, 50);
        C.due("less, some is there", 8, x.gather(5, 3, -9));
        C.due("what was gathered before does not count", 0, x.gather(5, 3, 0));
        x.bring(5, 3);
        C.due("nothing is missing", 0, x.gather(5, 3, -9));
        x.bring(5, -3);
        C.due("too many batches", -3, x.gather(5, 999, -9));
        C.due("too many batches, of one thing", -3, x.gather(5, 999, 2));
        C.due("wrong thing, ahead of it", -1, x.gather(5, 999, 20));
        x.allow(2, 10);
        C.due("gathered itself, its substitute is not made", 6, x.gather(5, 3, 2));
        Checks.lay(x, "k=2m");
        C.due("its substitute is made", 12, x.gather(5, 3, 12));
        C.due("none of itself", 0, x.gather(5, 3, 2));
    }

    private static void canHave() {
        ThingMaker x = Checks.with("d2=3a+b", "f=d+2c");
        for (int t : NO_THINGS) {
            C.due("canHave(" + t + ")", -1, x.canHave(t));
        }
        C.due("canHave(-9)", -1, x.canHave(-9));
        C.due("nothing", 0, x.canHave(5));
        x.bring(0, 7);
        C.due("gathered", 7, x.canHave(0));
        x.bring(1, 9);
        C.due("2 batches of 2", 4, x.canHave(3));
        x.bring(3, 1);
        C.due("and 1 that is there", 5, x.canHave(3));
        C.due("no c", 0, x.canHave(5));
        x.bring(2, 9);
        C.due("4 of 9 c", 4, x.canHave(5));
        x.bring(5, 2);
        C.due("and 2 that are there", 6, x.canHave(5));
        x.allow(2, 9);
        x.bring(9, 90);
        C.due("all 5 d", 7, x.canHave(5));
        C.due("substitutes of the wish play no part", 9, x.canHave(2));
    }

    private static void canHaveWhateverLesserNumbersNeed() {
        ThingMaker x = Checks.with("g2=3h", "f=2g+i");
        x.bring(7, 3);
        x.bring(8, 9);
        x.bring(6, 2);
        C.due("1 by the 2 g there, 1 by a batch of 2 g", 2, x.canHave(5));
        ThingMaker y = Checks.with("d=2a", "a5=b");
        y.bring(1, 1);
        C.due("5 a for 2 d", 2, y.canHave(3));
        y.vessel(0, 4);
        y.allow(0, 4);
        C.due("their vessels in their place: only those from the store", 2, y.canHave(3));
        y.bring(0, 3);
        // n of d need 2n: 3 a of the store, then their 3 vessels, then up to 5 a of the batch.
        C.due("3 a, 3 vessels, 5 a", 5, y.canHave(3));
        notMonotonic();
    }

    /** A wish that needs nothing though a lesser one does, because a batch for more brings vessels along. */
    private static void notMonotonic() {
        // f = c + e. 1 f takes the one c there is. 2 f make 1 more c, of a, whose vessel is e.
        ThingMaker x = Checks.with("f=c+e", "c=2a");
        x.vessel(0, 4);
        x.bring(0, 2);
        x.bring(2, 1);
        C.due("1 f needs an e", 1, x.gather(5, 1, -9));
        C.due("2 f need none", 0, x.gather(5, 2, -9));
        C.due("3 f need 2 a", 2, x.gather(5, 3, -9));
        C.due("2 can be had", 2, x.canHave(5));
        x.bring(2, 1);
        C.due("1 and 2 need", 1, x.gather(5, 1, 4));
        C.due("1 and 2 need", 2, x.gather(5, 2, 4));
        C.due("3 need one", 1, x.gather(5, 3, 4));
        C.due("none can be had", 0, x.canHave(5));
        x.bring(4, 1);
        C.due("3 can be had", 3, x.canHave(5));
        C.due("2 can't", 1, x.gather(5, 2, -9));
    }

    private static void canHaveLimits() {
        ThingMaker one = Checks.with("d3=2a");
        one.bring(0, 3);
        C.due("one batch", 3, one.canHave(3));
        one.bring(3, 2);
        C.due("one batch and what is there", 5, one.canHave(3));
        // More batches than 999 need would need nothing (52, by the vessels e of a), but no wish makes so many.
        ThingMaker many = Checks.with("f20=c+e", "c=2a");
        many.vessel(0, 4);
        many.bring(0, 9999);
        many.bring(2, 26);
        C.due("50 batches for 999", 2, many.gather(5, 999, -9));
        many.bring(5, 40);
        C.due("only those that are there", 40, many.canHave(5));
        many.bring(4, 4);
        C.due("48 batches, not those for less", 999, many.canHave(5));
        C.due("47 batches", 1, many.gather(5, 980, -9));
        ThingMaker x = Checks.with("d=a", "e2=a", "g3=2a");
        fill(x, 0);
        C.due("at most 999", 999, x.canHave(0));
        C.due("at most 500 batches", 500, x.canHave(3));
        C.due("999 by 500 batches", 999, x.canHave(4));
        C.due("999 by 333 batches", 999, x.canHave(6));
        x.bring(3, 300);
        C.due("500 batches more", 800, x.canHave(3));
        x.bring(3, 198);
        C.due("500 batches more", 998, x.canHave(3));
        x.bring(3, 1);
        C.due("999", 999, x.canHave(3));
        x.bring(3, 500);
        C.due("999 are there", 999, x.canHave(3));
        x.bring(3, 9000);
        C.due("more are there", 999, x.canHave(3));
        // The vessel does not fit into the store more than twice.
        ThingMaker y = Checks.with("d=a");
        y.bring(0, 100);
        y.vessel(0, 1);
        fill(y, 1);
        y.bring(1, -2);
        C.due("2 vessels fit", 2, y.canHave(3));
        y.bring(1, 2);
        C.due("no vessel fits", 0, y.canHave(3));
    }

    private static void bestGift() {
        ThingMaker x = Checks.with("d2=3a+b", "f=d+2c", "g=5f");
        for (int t : NO_THINGS) {
            C.due("bestGift(" + t + ", 1)", -1, x.bestGift(t, 1));
        }
        C.due("n 0", -1, x.bestGift(5, 0));
        C.due("n 1000", -1, x.bestGift(5, 1000));
        C.due("too many", -3, x.bestGift(5, 999));
        C.due("itself", 5, x.bestGift(5, 1));
        C.due("3 f: d saves 4, f saves 6", 5, x.bestGift(5, 3));
        C.due("2 f: d saves none, f saves 2", 5, x.bestGift(5, 2));
        C.due("g itself saves all", 6, x.bestGift(6, 1));
        C.due("nothing is missing", 0, x.bestGift(0, 1));
        Checks.lay(x, "g=5d+c");
        C.due("2 g: g saves 12, d none", 6, x.bestGift(6, 2));
        Checks.lay(x, "g9=5d+c");
        C.due("10 g: of 10 d, d saves none, g a batch", 6, x.bestGift(6, 10));
        C.due("9 g: of 5 d, d saves a batch, g none", 3, x.bestGift(6, 8));
        ThingMaker y = Checks.with("d=2a+2b+2c");
        C.due("d", 3, y.bestGift(3, 1));
        y.bring(3, 3);
        C.due("nothing to be gathered", -9, y.bestGift(3, 3));
        ThingMaker z = Checks.with("d9=a+b+c");
        C.due("a, b and c save 1 each, d none", 0, z.bestGift(3, 2));
        z.allow(1, 8);
        z.bring(0, 1);
        C.due("b, or i in its place, or c: the lowest", 1, z.bestGift(3, 2));
        z.bring(1, 1);
        C.due("c", 2, z.bestGift(3, 2));
    }

    private static void bestGiftThatWouldFail() {
        ThingMaker x = Checks.with("d=a+c", "a=9b+9m");
        C.due("d saves all", 3, x.bestGift(3, 1));
        Checks.lay(x, "d2=a+c");
        C.due("2 batches", 38, x.gather(3, 3, -9));
        C.due("3 d: d saves a batch", 3, x.bestGift(3, 3));
        C.due("4 d: d saves none, a saves 18", 0, x.bestGift(3, 4));
        // Given a, its vessel comes in, which does not fit; a batch of a would fail too.
        x.vessel(0, 18);
        C.due("now vessels come in", 38, x.gather(3, 4, -9));
        fill(x, 18);
        C.due("all fails", -3, x.bestGift(3, 4));
        // The substitute t would save as much as a, but its vessel does not fit.
        ThingMaker y = Checks.with("d2=b+c", "b=9e");
        y.allow(1, 0);
        C.due("a in place of b", 0, y.bestGift(3, 2));
        y.vessel(0, 18);
        C.due("vessels do not matter", 0, y.bestGift(3, 2));
        fill(y, 18);
        C.due("a fails", 1, y.bestGift(3, 2));
        C.due("the wish does not", 10, y.gather(3, 2, -9));
        y.bring(18, -1);
        C.due("a fits again", 0, y.bestGift(3, 2));
        // More of what is there to the limit would be above it.
        ThingMaker z = Checks.with("d2=2a+c");
        fill(z, 0);
        C.due("c", 2, z.bestGift(3, 2));
    }

    private static void bestGiftThatIsNone() {
        ThingMaker x = Checks.with("d2=a", "e2=2d");
        C.due("1 e: d saves none of the 1 a, a and e do", 0, x.bestGift(4, 1));
        x.bring(0, 1);
        C.due("nothing to be gathered", -9, x.bestGift(4, 1));
        C.due("nothing to be gathered", -9, x.bestGift(0, 1));
        // b would save what is missing, but b fails; nothing else saves anything.
        ThingMaker y = Checks.with("d9=a");
        y.vessel(0, 19);
        y.vessel(1, 19);
        y.allow(0, 1);
        fill(y, 19);
        C.due("all fail", -3, y.bestGift(3, 1));
        y.vessel(0, -9);
        C.due("a itself", 0, y.bestGift(3, 1));
        Checks.lay(y, "a20=2k");
        C.due("a batch of a", 2, y.gather(3, 1, -9));
        C.due("a itself", 0, y.bestGift(3, 1));
        // One b more goes in place of k, which could be made of what is there; b is missing all the same.
        ThingMaker z = Checks.with("d9=k+b", "k=c");
        z.allow(10, 1);
        z.bring(2, 5);
        C.due("1 b", 1, z.gather(3, 2, 1));
        C.due("none makes it less", -9, z.bestGift(3, 2));
        C.due("for 10 d, d does", 3, z.bestGift(3, 10));
        Checks.lay(z, "d9=b+k");
        C.due("b does where it is taken first", 1, z.bestGift(3, 2));
    }

    private static void nothingHappens() {
        ThingMaker x = new ThingMaker();
        readyForAWish(x);
        int changes = x.told(7);
        C.due("19 f: 10 a and 37 c", 47, x.gather(5, 20, -9));
        C.due("vessels are not gathered", 0, x.gather(5, 20, 9));
        x.gather(5, 999, -9);
        x.canHave(5);
        x.canHave(3);
        x.bestGift(5, 30);
        x.bestGift(5, 999);
        C.due("no change", changes, x.told(7));
        C.dueText("nothing happened", Checks.stateAfter(WouldBeTest::readyForAWish), Checks.stateOf(x));
    }

    private static void readyForAWish(ThingMaker x) {
        Checks.lay(x, "d2=3a+b");
        Checks.lay(x, "f=d+2c");
        x.vessel(0, 9);
        x.bring(0, 20);
        x.bring(1, 20);
        x.bring(2, 3);
        x.wish(5, 1);
    }
}
