/** Promises 12 to 21: versions, shots, proofs, speeds, scraps and tints, rights. */
public final class VersionsTest {
    private static final int NONE = Reelrescue.NONE;
    private static final int CODES = 0, READABLE = 1, CERTAINTY = 2, DURATION = 3, LAND = 4, YEAR = 5;

    private static final Check check = new Check();

    public static void main(String[] args) {
        versions();
        shots();
        tooManyCodes();
        proofs();
        speeds();
        readableCodes();
        scraps();
        tints();
        rights();
        fortyRights();
        showing();
        allowing();
        check.end();
    }

    private static void versions() {
        Reelrescue x = new Reelrescue();
        check.outOfRange("land below", () -> x.version(-1, 1950));
        check.outOfRange("land above", () -> x.version(4, 1950));
        check.outOfRange("year below", () -> x.version(0, 1889));
        check.outOfRange("year above", () -> x.version(0, 2101));
        check.is("version", 0, x.version(0, 1890));
        check.is("version", 1, x.version(3, 2100));
        check.is("land", 3, x.ofVersion(1, LAND));
        check.is("year", 2100, x.ofVersion(1, YEAR));
        check.is("year", 1890, x.ofVersion(0, YEAR));
        check.is("codes at first", 0, x.ofVersion(1, CODES));
        check.is("readable codes at first", 0, x.ofVersion(1, READABLE));
        check.is("duration at first", 0, x.ofVersion(1, DURATION));
        for (int i = 2; i < 6; i++) {
            check.is("version", i, x.version(1, 1950));
        }
        check.notNow("a seventh version", () -> x.version(0, 1950));
        check.outOfRange("a seventh version of no land", () -> x.version(4, 1950));
        check.outOfRange("what below", () -> x.ofVersion(0, -1));
        check.outOfRange("what above", () -> x.ofVersion(0, 6));
        check.noSuch("ofVersion of no version", () -> x.ofVersion(6, 0));
        check.noSuch("ofVersion below", () -> x.ofVersion(-1, 9));
    }

    private static void shots() {
        Reelrescue x = new Reelrescue();
        check.noSuch("shot of no version", () -> x.shot(0, 9, 0));
        x.version(0, 1950);
        check.is("a shot of one code", 1, x.shot(0, 0, 0));
        check.is("a shot of two codes", 3, x.shot(0, 998, 999));
        check.is("codes count as often as they stand in shots", 5, x.shot(0, 998, 999));
        check.outOfRange("from below", () -> x.shot(0, -1, 5));
        check.outOfRange("from above", () -> x.shot(0, 1000, 1000));
        check.outOfRange("to ahead of from", () -> x.shot(0, 5, 4));
        check.outOfRange("to above", () -> x.shot(0, 999, 1000));
        check.outOfRange("to far above", () -> x.shot(0, 0, Integer.MAX_VALUE));
        check.noSuch("shot below", () -> x.shot(-1, 0, 0));
        for (int i = 3; i < 10; i++) {
            check.is("shot", i + 3, x.shot(0, i, i));
        }
        check.notNow("an eleventh shot", () -> x.shot(0, 0, 0));
        check.outOfRange("an eleventh shot to ahead of from", () -> x.shot(0, 1, 0));
        check.is("codes", 12, x.ofVersion(0, CODES));
    }

    private static void tooManyCodes() {
        Reelrescue x = new Reelrescue();
        x.version(0, 1950);
        check.notNow("121 codes", () -> x.shot(0, 0, 120));
        check.notNow("1000 codes", () -> x.shot(0, 0, 999));
        check.is("119 codes", 119, x.shot(0, 0, 118));
        check.notNow("2 codes more", () -> x.shot(0, 0, 1));
        check.is("1 code more", 120, x.shot(0, 0, 0));
        check.notNow("121 codes", () -> x.shot(0, 0, 0));
        check.is("codes", 120, x.ofVersion(0, CODES));
        check.is("an edition of 120", 120, x.edition(0));
        check.is("the last one", 0, x.ofFrame(119, 0));
        check.noSuch("none behind it", () -> x.ofFrame(120, 0));
    }

    private static void proofs() {
        Reelrescue x = new Reelrescue();
        check.noSuch("proof of no version", () -> x.proof(0));
        x.version(0, 1950);
        x.version(0, 1950);
        check.is("guessed", 0, x.ofVersion(0, CERTAINTY));
        check.is("proof", 1, x.proof(0));
        check.is("likely", 1, x.ofVersion(0, CERTAINTY));
        check.is("proof", 2, x.proof(0));
        check.is("certain", 2, x.ofVersion(0, CERTAINTY));
        check.is("proof", 3, x.proof(0));
        check.is("still certain", 2, x.ofVersion(0, CERTAINTY));
        check.is("not the other one", 0, x.ofVersion(1, CERTAINTY));
        check.noSuch("proof below", () -> x.proof(-1));
    }

    private static void speeds() {
        Reelrescue x = new Reelrescue();
        check.noSuch("speed of no version", () -> x.speed(0, 0, 99));
        x.version(0, 1950);
        check.noSuch("speed of no shot", () -> x.speed(0, 0, 99));
        x.shot(0, 0, 0);
        x.shot(0, 10, 15);
        check.is("16 at first: 62 and 375", 437, x.ofVersion(0, DURATION));
        x.version(0, 1950);
        x.shot(1, 0, 119);
        check.is("16 at first: 7500", 7500, x.ofVersion(1, DURATION));
        check.is("speed", 16, x.speed(0, 1, 30));
        check.is("62 and 200", 262, x.ofVersion(0, DURATION));
        check.is("speed", 16, x.speed(0, 0, 24));
        check.is("each rounded down: 41 and 200", 241, x.ofVersion(0, DURATION));
        check.is("speed", 30, x.speed(0, 1, 8));
        check.is("41 and 750", 791, x.ofVersion(0, DURATION));
        check.is("speed", 8, x.speed(0, 1, 18));
        check.is("41 and 333", 374, x.ofVersion(0, DURATION));
        x.shot(0, 7, 7);
        check.is("speed of a later shot", 16, x.speed(0, 2, 16));
        check.outOfRange("speed below", () -> x.speed(0, 0, 7));
        check.outOfRange("speed above", () -> x.speed(0, 0, 31));
        check.outOfRange("no speed", () -> x.speed(0, 0, 0));
        check.noSuch("shot below", () -> x.speed(0, -1, 16));
        check.noSuch("shot above", () -> x.speed(0, 3, 7));
        check.noSuch("version below", () -> x.speed(-1, 0, 16));
    }

    private static void readableCodes() {
        Reelrescue x = new Reelrescue();
        x.version(0, 1950);
        x.shot(0, 10, 12);
        x.shot(0, 12, 13);
        check.is("without reels", 0, x.ofVersion(0, READABLE));
        x.reel(Reelrescue.NITRATE, 1950, 0, NONE, 297);
        x.frame(0, 12, 0, 0);
        check.is("a code counts as often as it stands in shots", 2, x.ofVersion(0, READABLE));
        x.frame(0, 12, 0, 0);
        x.frame(0, 14, 0, 0);
        x.reel(Reelrescue.ACETATE, 1950, 0, NONE, 0);
        x.frame(1, 12, 0, 0);
        x.frame(1, 10, 0, 0);
        check.is("not as often as it stands in reels", 3, x.ofVersion(0, READABLE));
        x.pass(1);
        check.is("one reel is lost, the other one has them", 3, x.ofVersion(0, READABLE));
        x.frame(0, 13, 0, 0);
        check.is("a reel that cannot be read does not count", 3, x.ofVersion(0, READABLE));
    }

    private static void scraps() {
        Reelrescue x = new Reelrescue();
        check.outOfRange("code below", () -> x.scrap(-1, 0));
        check.outOfRange("code above", () -> x.scrap(1000, 0));
        check.outOfRange("tint below", () -> x.scrap(0, -1));
        check.outOfRange("tint above", () -> x.scrap(0, 10));
        check.is("scrap", 1, x.scrap(0, 0));
        check.is("scrap of another code", 1, x.scrap(999, 9));
        for (int i = 2; i < 100; i++) {
            check.is("scrap", i, x.scrap(0, i % 10));
        }
        check.notNow("scrap 101", () -> x.scrap(5, 0));
        check.outOfRange("scrap 101 of no tint", () -> x.scrap(5, 10));
    }

    private static void tints() {
        Reelrescue x = new Reelrescue();
        check.noSuch("tint of no version", () -> x.tint(0, 0));
        x.version(0, 1950);
        x.shot(0, 10, 12);
        x.shot(0, 12, 20);
        check.is("without scraps", NONE, x.tint(0, 0));
        x.scrap(9, 1);
        x.scrap(13, 1);
        check.is("scraps beside it", NONE, x.tint(0, 0));
        check.is("a scrap in it", 1, x.tint(0, 1));
        x.scrap(12, 9);
        check.is("the last code is in it", 9, x.tint(0, 0));
        check.is("of two the lowest", 1, x.tint(0, 1));
        x.scrap(10, 0);
        check.is("the first code is in it", 0, x.tint(0, 0));
        x.scrap(11, 9);
        check.is("the most scraps", 9, x.tint(0, 0));
        x.scrap(20, 9);
        check.is("the most scraps", 9, x.tint(0, 1));
        check.noSuch("shot below", () -> x.tint(0, -1));
        check.noSuch("shot above", () -> x.tint(0, 2));
        check.noSuch("version above", () -> x.tint(1, 0));
        check.noSuch("version below", () -> x.tint(-1, 0));
    }

    private static void rights() {
        Reelrescue x = new Reelrescue();
        check.noSuch("right of no version", () -> x.right(0, 0, 9, 1950, 1960));
        x.version(0, 1950);
        x.version(0, 1950);
        check.is("right", 1, x.right(0, 0, 0, 1890, 1890));
        check.is("right", 2, x.right(0, 9, 3, 2200, 2200));
        check.is("right of the other version", 1, x.right(1, 9, 3, 1890, 2200));
        check.noSuch("version below", () -> x.right(-1, 0, 0, 1950, 1960));
        check.noSuch("holder below", () -> x.right(0, -1, 4, 1950, 1960));
        check.noSuch("holder above", () -> x.right(0, 10, 0, 1950, 1940));
        check.outOfRange("land below", () -> x.right(0, 0, -1, 1950, 1960));
        check.outOfRange("land above", () -> x.right(0, 0, 4, 1950, 1960));
        check.outOfRange("from below", () -> x.right(0, 0, 0, 1889, 1960));
        check.outOfRange("from above", () -> x.right(0, 0, 0, 2201, 2201));
        check.outOfRange("to ahead of from", () -> x.right(0, 0, 0, 1950, 1949));
        check.outOfRange("to above", () -> x.right(0, 0, 0, 1950, 2201));
        check.is("none of them was kept", 3, x.right(0, 0, 0, 1950, 1950));
    }

    private static void fortyRights() {
        Reelrescue x = new Reelrescue();
        x.version(0, 1950);
        x.version(0, 1950);
        check.is("right", 1, x.right(1, 0, 0, 1950, 1950));
        for (int i = 1; i < 40; i++) {
            check.is("right", i, x.right(0, 0, 0, 1950, 1950));
        }
        check.notNow("right 41", () -> x.right(0, 0, 0, 1950, 1950));
        check.notNow("right 41 of the other version", () -> x.right(1, 0, 0, 1950, 1950));
        check.outOfRange("right 41 of no land", () -> x.right(1, 0, 4, 1950, 1950));
        check.noSuch("right 41 of no holder", () -> x.right(1, 10, 0, 1950, 1950));
        check.is("the 40th counts", false, x.mayShow(0, 0, 1950));
        Reelrescue y = new Reelrescue();
        y.version(0, 1950);
        for (int i = 0; i < 40; i++) {
            check.is("right", i + 1, y.right(0, 0, i == 39 ? 1 : 0, 1950, 1950));
        }
        check.is("all 40 of one version", false, y.mayShow(0, 1, 1950));
        check.is("all 40 of one version", true, y.mayShow(0, 2, 1950));
    }

    private static void showing() {
        Reelrescue x = new Reelrescue();
        check.noSuch("mayShow of no version", () -> x.mayShow(0, 9, 1950));
        x.version(0, 1950);
        x.version(0, 1950);
        check.is("without rights", true, x.mayShow(0, 0, 1890));
        x.right(0, 1, 2, 1950, 1960);
        check.is("a year ahead of it", true, x.mayShow(0, 2, 1949));
        check.is("its first year", false, x.mayShow(0, 2, 1950));
        check.is("its last year", false, x.mayShow(0, 2, 1960));
        check.is("a year behind it", true, x.mayShow(0, 2, 1961));
        check.is("another land", true, x.mayShow(0, 1, 1955));
        check.is("another version", true, x.mayShow(1, 2, 1955));
        check.is("the last year that can be asked", true, x.mayShow(0, 2, 2200));
        check.outOfRange("land below", () -> x.mayShow(0, -1, 1950));
        check.outOfRange("land above", () -> x.mayShow(0, 4, 1950));
        check.outOfRange("year below", () -> x.mayShow(0, 0, 1889));
        check.outOfRange("year above", () -> x.mayShow(0, 0, 2201));
        check.noSuch("version below", () -> x.mayShow(-1, 0, 1950));
    }

    private static void allowing() {
        Reelrescue x = new Reelrescue();
        check.noSuch("allow of no version", () -> x.allow(0, 0, true));
        x.version(0, 1950);
        x.version(0, 1950);
        x.right(0, 1, 2, 1950, 1960);
        x.right(0, 9, 2, 1960, 1970);
        x.right(0, 1, 3, 1950, 1960);
        x.right(1, 1, 2, 1950, 1960);
        check.is("allow", false, x.allow(0, 1, true));
        check.is("allow again", true, x.allow(0, 1, true));
        check.is("allowed", true, x.mayShow(0, 2, 1959));
        check.is("allowed in all lands", true, x.mayShow(0, 3, 1959));
        check.is("one of two has not allowed it", false, x.mayShow(0, 2, 1960));
        check.is("the other version is not allowed", false, x.mayShow(1, 2, 1959));
        check.is("allow by the last holder", false, x.allow(0, 9, true));
        check.is("both have", true, x.mayShow(0, 2, 1960));
        check.is("not any more", true, x.allow(0, 1, false));
        check.is("not any more, again", false, x.allow(0, 1, false));
        check.is("one of two has not", false, x.mayShow(0, 2, 1960));
        check.is("the other one has", true, x.mayShow(0, 2, 1970));
        check.is("allowed ahead of a right", false, x.allow(1, 0, true));
        x.right(1, 0, 0, 2000, 2010);
        check.is("so it may be shown", true, x.mayShow(1, 0, 2005));
        check.noSuch("holder below", () -> x.allow(0, -1, true));
        check.noSuch("holder above", () -> x.allow(0, 10, true));
        check.noSuch("version below", () -> x.allow(-1, 0, true));
    }
}
