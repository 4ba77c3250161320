/** For each sentence about texts that names a boundary case, a test of its own. */
public final class TextEdges {
    private static final Check check = new Check();

    public static void main(String[] args) {
        oneLetterAtFirst();
        lettersOfTwoPlaces();
        countedFromOne();
        countedThroughAllParts();
        narrowInOnePart();
        narrowInSeveralParts();
        asManyAsFit();
        noLetterIsDivided();
        wideInOnePart();
        wideInSeveralParts();
        everyIsForNarrowTexts();
        fewestAndMostLetters();
        draftTellsItsParts();
        partsFromZero();
        everyText();
        check.end("TextEdges");
    }

    private static void cutIs(int letters, int every, boolean wide, int... want) {
        check.equal(letters + " letters, every " + every, want, Given.cut(letters, every, wide));
    }

    private static void oneLetterAtFirst() {
        check.sentence("An account has a draft, a text of letters, 1 letter at first.");
        for (int account = 0; account < 4; account++) {
            MessageCentre x = new MessageCentre();
            x.submit(account, 0, 0, 1);
            check.equal("account " + account, new int[] {1}, Given.letters(x, 0));
        }
    }

    private static void lettersOfTwoPlaces() {
        check.sentence("A narrow text has letters that take 1 place, and perhaps letters that take 2");
        cutIs(160, 0, false, 160);
        cutIs(80, 1, false, 80);
        cutIs(81, 1, false, 76, 5);
        cutIs(157, 50, false, 157);
        cutIs(158, 50, false, 150, 8);
    }

    private static void countedFromOne() {
        check.sentence("(every so manieth one, counted from 1)");
        // Letters 2 to 106 take 2 places, 53 of them; counted from 0 there would be 54.
        cutIs(107, 2, false, 107);
        cutIs(108, 2, false, 102, 6);
        // Letter 156 is the last of 2 places: 156 + 4 are 160 with every 39th, 157 + 4 are 161.
        cutIs(156, 39, false, 156);
        cutIs(157, 39, false, 150, 7);
    }

    private static void countedThroughAllParts() {
        check.sentence("(every so manieth one, counted from 1)");
        // The second part begins with letter 124, which takes 2 places.
        cutIs(489, 4, false, 123, 122, 122, 122);
        cutIs(490, 4, false, 123, 122, 122, 122, 1);
    }

    private static void narrowInOnePart() {
        check.sentence("If all of its letters take at most 160 places, it is one part");
        cutIs(1, 0, false, 1);
        cutIs(1, 1, false, 1);
        cutIs(159, 0, false, 159);
        cutIs(160, 0, false, 160);
        cutIs(161, 0, false, 153, 8);
        cutIs(120, 3, false, 120);
        cutIs(121, 3, false, 115, 6);
    }

    private static void narrowInSeveralParts() {
        check.sentence("as many of the next letters as take at most 153 places together");
        cutIs(305, 0, false, 153, 152);
        cutIs(306, 0, false, 153, 153);
        cutIs(307, 0, false, 153, 153, 1);
        cutIs(459, 0, false, 153, 153, 153);
        cutIs(460, 0, false, 153, 153, 153, 1);
    }

    private static void asManyAsFit() {
        check.sentence("as many of the next letters as take at most 153 places together");
        // Each part but the last takes 153 places with these.
        cutIs(204, 2, false, 102, 102);
        cutIs(205, 2, false, 102, 102, 1);
        cutIs(300, 50, false, 150, 150);
        cutIs(301, 50, false, 150, 150, 1);
    }

    private static void noLetterIsDivided() {
        check.sentence("and no letter is divided");
        // 76 letters take 152 places; the next one would take the 153rd and one more.
        cutIs(152, 1, false, 76, 76);
        cutIs(153, 1, false, 76, 76, 1);
        // Letter 123 ends at place 153, 245 at 153, 367 at 152, for 368 takes 2.
        cutIs(368, 4, false, 123, 122, 122, 1);
    }

    private static void wideInOnePart() {
        check.sentence("A wide text is one part if it has at most 70 letters");
        cutIs(1, 0, true, 1);
        cutIs(69, 0, true, 69);
        cutIs(70, 0, true, 70);
        cutIs(71, 0, true, 67, 4);
    }

    private static void wideInSeveralParts() {
        check.sentence("otherwise each part has 67 of the next letters, the last one what is left");
        cutIs(133, 0, true, 67, 66);
        cutIs(134, 0, true, 67, 67);
        cutIs(135, 0, true, 67, 67, 1);
        cutIs(469, 0, true, 67, 67, 67, 67, 67, 67, 67);
        cutIs(470, 0, true, 67, 67, 67, 67, 67, 67, 67, 1);
        cutIs(500, 0, true, 67, 67, 67, 67, 67, 67, 67, 31);
    }

    private static void everyIsForNarrowTexts() {
        check.sentence("every so manieth letter takes 2 places in a narrow text; 0 for none");
        cutIs(70, 1, true, 70);
        cutIs(71, 1, true, 67, 4);
        cutIs(160, 0, false, 160);
        MessageCentre x = new MessageCentre();
        x.draft(0, 160, 1, false);
        check.equal("a later draft does not keep it", 1, x.draft(0, 160, 0, false));
    }

    private static void fewestAndMostLetters() {
        check.sentence("letters: 1 to 500");
        cutIs(1, 50, false, 1);
        cutIs(1, 50, true, 1);
        cutIs(500, 0, false, 153, 153, 153, 41);
        cutIs(500, 50, false, 150, 150, 150, 50);
        cutIs(500, 1, false, 76, 76, 76, 76, 76, 76, 44);
        cutIs(500, 1, true, 67, 67, 67, 67, 67, 67, 67, 31);
    }

    private static void draftTellsItsParts() {
        check.sentence("Returns how many parts it has.");
        MessageCentre x = new MessageCentre();
        check.equal("160 narrow", 1, x.draft(3, 160, 0, false));
        check.equal("161 narrow", 2, x.draft(3, 161, 0, false));
        check.equal("500 narrow of 2 places", 7, x.draft(3, 500, 1, false));
        check.equal("70 wide", 1, x.draft(3, 70, 0, true));
        check.equal("71 wide", 2, x.draft(3, 71, 0, true));
        check.equal("500 wide", 8, x.draft(3, 500, 0, true));
    }

    private static void partsFromZero() {
        check.sentence("part: 0 for the first one");
        MessageCentre x = new MessageCentre();
        x.draft(0, 71, 0, true);
        x.submit(0, 0, 0, 1);
        check.equal("the first", 67, x.lettersIn(0, 0));
        check.equal("the last", 4, x.lettersIn(0, 1));
        check.noIndex("behind the last", () -> x.lettersIn(0, 2));
        check.noIndex("ahead of the first", () -> x.lettersIn(0, -1));
        x.draft(0, 70, 0, true);
        x.submit(0, 0, 0, 1);
        check.equal("the only one", 70, x.lettersIn(1, 0));
        check.noIndex("no second one", () -> x.lettersIn(1, 1));
    }

    /** All texts that a draft can have, compared with the document told a second time. */
    private static void everyText() {
        check.sentence("letters: 1 to 500, every: 0 to 50, wide");
        for (int every = 0; every <= 50; every++) {
            for (int letters = 1; letters <= 500; letters++) {
                compareWithPlain(letters, every, false);
                compareWithPlain(letters, every, true);
            }
        }
    }

    private static void compareWithPlain(int letters, int every, boolean wide) {
        int[] want = PlainCentre.Text.of(letters, every, wide).parts().stream().mapToInt(part -> part).toArray();
        check.equal((wide ? "wide " : "narrow ") + letters + " every " + every, want,
                Given.cut(letters, every, wide));
    }
}
