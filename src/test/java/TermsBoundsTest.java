/** The boundary cases of the sections under "Terms". */
public final class TermsBoundsTest extends Bounds {
    private TermsBoundsTest() {
    }

    public static void main(String[] args) {
        calls();
        sets();
        blocksByMost();
        blocksByWidth();
        blocksByBoth();
        bytes();
        sizes();
        leapsFromEmptySets();
        leapsOfCandidates();
        leapsBeginAtBlocks();
        leapsLookAtBases();
        leapsLookAtMembers();
        leapsOfFullSets();
        settings();
        textParts();
        textNumbers();
        textRanges();
        textOrder();
        textZeros();
        textErrors();
        textErrorsByCharacter();
        undoableMethods();
        undoOfNothing();
        undoKeepsTheBuffer();
        undoOfSixStates();
        Check.end();
    }

    private static void calls() {
        promise("What it is");
        says("An object is used for at most 512 calls after it has been made; what later calls answer is free.");
        is("the 512th call answers as the 12th does", turned(11).digest(), () -> turned(511), x -> x.digest());
        is("the 512th call changes what it should", 1, () -> turned(511), x -> x.remove(1, 500));
    }

    /** So many calls, which add a number and remove it in turns. */
    private static GapSets turned(int calls) {
        GapSets x = new GapSets();
        for (int call = 0; call < calls; call++) {
            Check.same("call " + call, call % 2 == 0 ? x.add(1, 500) : x.remove(1, 500), 1);
        }
        return x;
    }

    // ---- sets, blocks, bytes

    private static void sets() {
        promise("Terms, sets");
        says("There are 4 sets, numbered from 0, of numbers 0 to 9999, at most 60 each, at first empty.");
        for (int set = 0; set < 4; set++) {
            int n = set;
            is("set " + n + " is there, and empty", "0 0 0 0 -1 -1 0 0", Bounds::fresh, x -> properties(x, n));
            is("set " + n + " of numbers 0 and 9999", "0 9999", () -> with(n, 0, 9999), x -> members(x, n));
            is("set " + n + " may have 60 members with the others", 60, Bounds::full, x -> x.of(n, 0));
            is("set " + n + " may not have 61", STATE, Bounds::full, x -> x.add(n, 8000));
        }
    }

    private static void blocksByMost() {
        promise("Terms, blocks");
        says("goes on with the next greater ones, as long as it has fewer than setting 0 members");
        is("no block in an empty set", "", Bounds::fresh, x -> blocks(x, 0));
        is("setting 0 is 8, 7 members", "0..6:7", () -> sets("0-6"), x -> blocks(x, 0));
        is("setting 0 is 8, 8 members", "0..7:8", () -> sets("0-7"), x -> blocks(x, 0));
        is("setting 0 is 8, 9 members", "0..7:8 8..8:1", () -> sets("0-8"), x -> blocks(x, 0));
        is("setting 0 is 2, 2 members", "5..6:2", () -> settings(sets("5-6"), 2, 300), x -> blocks(x, 0));
        is("setting 0 is 2, 3 members", "5..6:2 7..7:1", () -> settings(sets("5-7"), 2, 300),
                x -> blocks(x, 0));
        is("setting 0 is 2, 60 members", 30, () -> settings(sets("0-59"), 2, 300), x -> x.of(0, 1));
        is("setting 0 is 16, 16 members", "0..15:16", () -> settings(sets("0-15"), 16, 300),
                x -> blocks(x, 0));
        is("setting 0 is 16, 17 members", "0..15:16 16..16:1", () -> settings(sets("0-16"), 16, 300),
                x -> blocks(x, 0));
        is("setting 0 is 16, 60 members", "0..15:16 16..31:16 32..47:16 48..59:12",
                () -> settings(sets("0-59"), 16, 300), x -> blocks(x, 0));
    }

    private static void blocksByWidth() {
        promise("Terms, blocks");
        says("and the gap of the next one (its difference from the member ahead of it) is at most setting 1");
        is("setting 1 is 300, gap 300", "0..300:2", () -> sets("0,300"), x -> blocks(x, 0));
        is("setting 1 is 300, gap 301", "0..0:1 301..301:1", () -> sets("0,301"), x -> blocks(x, 0));
        is("setting 1 is 1, gap 1", "4..5:2", () -> settings(sets("4,5"), 8, 1), x -> blocks(x, 0));
        is("setting 1 is 1, gap 2", "4..4:1 6..6:1", () -> settings(sets("4,6"), 8, 1), x -> blocks(x, 0));
        is("setting 1 is 9999, gap 9999", "0..9999:2", () -> settings(sets("0,9999"), 8, 9999),
                x -> blocks(x, 0));
        is("setting 1 is 9998, gap 9999", "0..0:1 9999..9999:1", () -> settings(sets("0,9999"), 8, 9998),
                x -> blocks(x, 0));
        is("the gap is from the member ahead, not from the base", "0..900:4", () -> sets("0,300,600,900"),
                x -> blocks(x, 0));
        is("60 blocks of one member", 60, () -> settings(full(), 16, 168), x -> x.of(2, 1));
        is("60 members in blocks of 16, all gaps at the width", 4, () -> settings(full(), 16, 169),
                x -> x.of(2, 1));
    }

    private static void blocksByBoth() {
        promise("Terms, blocks");
        says("a block begins with the least member that is in no block so far");
        is("a wide gap behind a full block", "0..1:2 500..501:2",
                () -> settings(sets("0,1,500,501"), 2, 300), x -> blocks(x, 0));
        is("behind a wide gap the members are counted anew", "0..0:1 500..501:2 502..502:1",
                () -> settings(sets("0,500-502"), 2, 300), x -> blocks(x, 0));
        is("members that came from the greatest one on", "0..2:3 400..400:1", () -> with(0, 400, 2, 1, 0),
                x -> blocks(x, 0));
        says("Blocks are numbered from 0 by ascending members; the base of a block is its least member.");
        is("the base of block 0", 5, () -> sets("5,7,700,701"), x -> x.block(0, 0, 0));
        is("the base of the last block", 700, () -> sets("5,7,700,701"), x -> x.block(0, 1, 0));
    }

    private static void bytes() {
        promise("Terms, bytes");
        says("A block takes 2 bytes for its base, 1 byte for its number of members, and for each gap in it "
                + "1 byte if it is below 128, otherwise 2.");
        is("one member", 3, () -> with(0, 9999), x -> x.block(0, 0, 3));
        is("a gap of 1", 4, () -> sets("7,8"), x -> x.block(0, 0, 3));
        is("a gap of 127", 4, () -> sets("0,127"), x -> x.block(0, 0, 3));
        is("a gap of 128", 5, () -> sets("0,128"), x -> x.block(0, 0, 3));
        is("a gap of 300", 5, () -> sets("0,300"), x -> x.block(0, 0, 3));
        is("a gap of 9999", 5, () -> settings(sets("0,9999"), 8, 9999), x -> x.block(0, 0, 3));
        is("a gap of 127 and one of 128", 6, () -> sets("0,127,255"), x -> x.block(0, 0, 3));
        is("16 members, gaps of 1", 18, () -> settings(full(), 16, 300), x -> x.block(0, 0, 3));
        is("16 members, gaps of 169", 33, () -> settings(full(), 16, 300), x -> x.block(2, 0, 3));
    }

    private static void sizes() {
        promise("Terms, bytes");
        says("The size of a set is the sum of its blocks' bytes.");
        is("an empty set", 0, Bounds::fresh, x -> x.of(0, 2));
        is("one member", 3, () -> with(0, 0), x -> x.of(0, 2));
        is("the gap between two blocks takes none", 6, () -> sets("0,301"), x -> x.of(0, 2));
        is("a full block and one more", 10 + 3, () -> sets("0-8"), x -> x.of(0, 2));
        is("60 members in 60 blocks", 180, () -> settings(full(), 2, 168), x -> x.of(2, 2));
        is("60 members in 30 blocks with gaps of two bytes", 150, () -> settings(full(), 2, 300),
                x -> x.of(2, 2));
        is("60 members in 4 blocks with gaps of one byte", 3 * 18 + 14, () -> settings(full(), 16, 300),
                x -> x.of(0, 2));
        says("Its plain size is 2 bytes for each member.");
        is("an empty set", 0, Bounds::fresh, x -> x.of(0, 3));
        is("one member", 2, () -> with(0, 0), x -> x.of(0, 3));
        is("60 members", 120, Bounds::full, x -> x.of(0, 3));
    }

    // ---- leaps: common members, leaps in the first set, leaps in the second set, looks

    private static void leapsAre(String theCase, String due, Make from) {
        is(theCase, due, from, x -> leaps(x, 0, 1));
    }

    private static GapSets pairs(String one, String other) {
        return settings(sets(one, other), 2, 300);
    }

    private static void leapsFromEmptySets() {
        promise("Terms, leaps");
        says("a candidate is the least member of the first set, if it is not empty");
        leapsAre("both are empty", "0 0 0 0", Bounds::fresh);
        leapsAre("the first one is empty", "0 0 0 0", () -> sets("", "5,7"));
        says("(In an empty set a leap has no look and finds nothing.");
        leapsAre("the second one is empty", "0 0 1 0", () -> sets("5,7", ""));
    }

    private static void leapsOfCandidates() {
        promise("Terms, leaps");
        says("Then a leap goes to the least member of the second set that is at least the candidate.");
        leapsAre("the candidate itself", "1 0 1 1", () -> sets("5", "5"));
        leapsAre("one more: a look at 6, and one at 5", "0 1 1 2", () -> sets("5", "6"));
        leapsAre("one less", "0 0 1 1", () -> sets("5", "4"));
        leapsAre("0", "1 0 1 1", () -> sets("0", "0"));
        leapsAre("9999", "1 0 1 1", () -> sets("9999", "9999"));
        says("If there is none, this is the end.");
        leapsAre("7 is no candidate any more", "0 0 1 1", () -> sets("5,7", "4"));
        says("If it is the candidate, it is a common member, and the next candidate is the next greater member "
                + "of the first set, if there is one");
        leapsAre("5, then 7: looks at 5, and at 5 7", "2 0 2 3", () -> sets("5,7", "5,7"));
        says("otherwise a leap goes to the least member of the first set that is at least the one found, which "
                + "is the next candidate, if there is one");
        leapsAre("the one found: looks at 7, at 5 7, at 7", "1 1 2 4", () -> sets("5,7", "7"));
        leapsAre("a greater one: looks at 7, at 5 9, at 7", "0 1 2 4", () -> sets("5,9", "7"));
        says("If there is no next candidate, this is the end.");
        leapsAre("behind a common member", "1 0 1 1", () -> sets("5", "5,7"));
        leapsAre("behind a leap in the first set", "0 1 1 2", () -> sets("5", "7,8"));
        says("The step to the next greater member of the first set is no leap, and has no look.)");
        leapsAre("steps alone: members 1, 1 2, 1 2 3", "3 0 3 6", () -> sets("1-3", "1-3"));
    }

    private static void leapsBeginAtBlocks() {
        promise("Terms, leaps");
        says("Each leap begins at the block of its set in which the member is that was reached there last");
        // For 5 bases 3 5 7 and member 5; for 7, from block 5 6 on, base 7 and member 7.
        leapsAre("in the second set what the leap ahead found", "2 0 2 6", () -> pairs("5,7", "1-8"));
        // For 5 base 9, members 1 2, base 9; in the first set members 5 9; for 9, from block 9 10 on, member 9.
        leapsAre("the block behind the one where it had come", "1 1 2 7", () -> pairs("5,9", "1,2,9,10"));
        // 1: base 6, member 1. 2: base 6, members 1 3. First set, from 1 2 on: bases 3 5, member 3. 3: base 6,
        // members 1 3. 4: base 6, members 1 3, base 6. First set, from 3 4 on: base 5, members 5 6. 6: member 6.
        leapsAre("in the first set the candidate", "3 2 5 19", () -> pairs("1-6", "1,3,6"));
        // 1: base 3, member 1. 2: base 3, members 1 2. 3: base 3, member 3. 4: members 3 9. First set: the
        // steps have reached block 3 4, members 3 4.
        leapsAre("the candidate that a step has reached", "3 1 4 11", () -> pairs("1-4", "1-3,9"));
        says("at first the block 0");
        leapsAre("the first leap, bases 3 5 7 and member 7", "1 0 1 4", () -> pairs("7", "1-8"));
        is("another call begins anew", "1 0 1 4", () -> pairs("7", "1-8"), x -> {
            leaps(x, 0, 1);
            return leaps(x, 0, 1);
        });
    }

    private static void leapsLookAtBases() {
        promise("Terms, leaps");
        says("looks at the bases of the blocks behind it, one by one, as long as there is one and its base is at "
                + "most the number looked for; each of these bases, also the first one that is greater, is a look");
        leapsAre("no block behind", "1 0 1 1", () -> pairs("1", "1,2"));
        leapsAre("a base that is the number: base 5, member 5", "1 0 1 2", () -> pairs("5", "1,2,5,6"));
        leapsAre("a base one less: base 4, members 4 5", "1 0 1 3", () -> pairs("5", "1,2,4,5"));
        leapsAre("a base one more: base 3, members 1 2", "1 0 1 3", () -> pairs("2", "1-4"));
        leapsAre("just the first one that is greater: bases 5 7, members 5 6", "1 0 1 4",
                () -> pairs("6", "1,2,5,6,7,8,9"));
        leapsAre("all are at most the number: base 5, members 5 6", "0 0 1 3", () -> pairs("9", "1,2,5,6"));
    }

    private static void leapsLookAtMembers() {
        promise("Terms, leaps");
        says("Then it looks at the members of the block where it has come, from the first one on, up to the first "
                + "one that is at least the number; each of these members is a look.");
        leapsAre("the first one", "1 0 1 1", () -> sets("1", "1-8"));
        leapsAre("the third one", "1 0 1 3", () -> sets("3", "1-8"));
        leapsAre("the last one", "1 0 1 8", () -> sets("8", "1-8"));
        leapsAre("16 members", "1 0 1 16", () -> settings(sets("15", "0-15"), 16, 300));
        leapsAre("one that is greater: members 1 6, and 5", "0 1 1 3", () -> sets("5", "1,6,7"));
        says("If there is none in this block, it looks at the base of the next block, if there is one; this is a "
                + "look (one more, if that base was looked at before), and what it finds.");
        // For 4 base 5, members 1 2, base 5; in the first set member 4.
        leapsAre("the next block's base", "0 1 1 5", () -> pairs("4", "1,2,5,6"));
        leapsAre("no next block: members 1 2", "0 0 1 2", () -> pairs("4", "1,2"));
        // For 1 member 5. In the first set for 5: base 9, members 1 2, base 9. For 9: member 5.
        leapsAre("in the first set too", "0 1 2 6", () -> pairs("1,2,9", "5"));
    }

    private static void leapsOfFullSets() {
        promise("Terms, leaps");
        says("To intersect two sets by leaps means");
        // Seven blocks of 8 and one of 4. The 2nd to 8th member of one of the seven: the next base, and 2 to 8
        // members. Their first members: 0 the next base and a member, the others their own base, the next one
        // and a member. In the last block: its base and a member, then 2, 3 and 4 members.
        int looks = 7 * (7 + 35) + 2 + 6 * 3 + 2 + 2 + 3 + 4;
        is("60 members with themselves", "60 0 60 " + looks, Bounds::full, x -> leaps(x, 0, 0));
        is("members of two full sets in turns", "0 60 60", () -> turns(), x -> x.leaps(0, 1, 0) + " "
                + x.leaps(0, 1, 1) + " " + x.leaps(0, 1, 2));
        is("the sets in the other order", "0 59 60", () -> turns(), x -> x.leaps(1, 0, 0) + " "
                + x.leaps(1, 0, 1) + " " + x.leaps(1, 0, 2));
    }

    private static GapSets turns() {
        GapSets x = new GapSets();
        for (int n = 0; n < 120; n++) {
            x.add(n % 2, n);
        }
        return x;
    }

    // ---- settings

    private static void settings() {
        promise("Terms, settings");
        says("0: the most members of a block, 2 to 16, at first 8");
        is("at first", 8, Bounds::fresh, x -> x.setting(0));
        is("2 is just inside", 2, () -> settings(fresh(), 2, 300), x -> x.setting(0));
        is("16 is just inside", 16, () -> settings(fresh(), 16, 300), x -> x.setting(0));
        refused("1 is just outside", ARGUMENT, Bounds::some, x -> x.set(0, 1));
        refused("17 is just outside", ARGUMENT, Bounds::some, x -> x.set(0, 17));
        says("1: the greatest gap in a block, 1 to 9999, at first 300");
        is("at first", 300, Bounds::fresh, x -> x.setting(1));
        is("1 is just inside", 1, () -> settings(fresh(), 8, 1), x -> x.setting(1));
        is("9999 is just inside", 9999, () -> settings(fresh(), 8, 9999), x -> x.setting(1));
        refused("0 is just outside", ARGUMENT, Bounds::some, x -> x.set(1, 0));
        refused("10000 is just outside", ARGUMENT, Bounds::some, x -> x.set(1, 10000));
    }

    // ---- input text

    /** The text has no syntax error, and is read as these members. */
    private static void reads(String theCase, String text, String members) {
        is(theCase + ", no error in " + text, text.length(), () -> typed(text), x -> x.firstError());
        is(theCase + ", members of " + text, members, () -> typed(text), x -> {
            x.read(0);
            return members(x, 0);
        });
    }

    /** The text has no syntax error, but it is not complete. */
    private static void isBegun(String theCase, String text) {
        is(theCase + ", no error in " + text, text.length(), () -> typed(text), x -> x.firstError());
        refused(theCase + ", read of " + text, ARGUMENT, () -> typed(text), x -> x.read(0));
    }

    private static void hasError(String theCase, int index, String text) {
        is(theCase + ", error in " + text, index, () -> typed(text), x -> x.firstError());
        refused(theCase + ", read of " + text, ARGUMENT, () -> typed(text), x -> x.read(0));
    }

    private static void textParts() {
        promise("Terms, input text");
        says("The buffer has at most 60 characters.");
        is("the 60th", 60, () -> typed(SIXTY.substring(0, 59)), x -> x.append('2'));
        refused("the 61st", STATE, () -> typed(SIXTY), x -> x.append('2'));
        says("A set as a text is one or more parts with \",\" between them");
        isBegun("no part", "");
        reads("one part", "7", "7");
        reads("two parts", "7,8", "7 8");
        reads("as many parts as 60 characters hold", SIXTY,
                "0 1 2 3 4 5 6 7 8 9 10 11 12 13 14 15 16 17 18 19 20 21 2222");
        isBegun("no part behind the last comma", "7,");
        hasError("no part ahead of a comma", 0, ",7");
        hasError("no part between two commas", 2, "7,,8");
    }

    private static void textNumbers() {
        promise("Terms, input text");
        says("a number, 0 to 9999");
        reads("the least one", "0", "0");
        reads("the greatest one", "9999", "9999");
        reads("both", "0,9999", "0 9999");
        hasError("one above the greatest one", 4, "10000");
        hasError("one above the greatest one, in a later part", 6, "7,10000");
        hasError("one above the greatest one, as a second number", 6, "7-10000");
        hasError("ten digits", 4, "2147483648");
        hasError("nothing goes behind the greatest one", 4, "9999,");
        isBegun("something may go behind the one below it", "9998,");
        hasError("nothing goes behind a range up to the greatest one", 9, "9990-9999,");
        isBegun("a range may begin with the greatest one", "9999-");
    }

    private static void textRanges() {
        promise("Terms, input text");
        says("or two numbers with \"-\" between them, all numbers from the first to the second one, which has to "
                + "be at least the first one");
        reads("the second one is the first one", "5-5", "5");
        reads("the second one is one greater", "5-6", "5 6");
        isBegun("the second one is less, but may become greater", "5-4");
        hasError("the second one is less, and the part ends", 3, "5-4,");
        hasError("the second one can't become as great", 8, "9999-9998");
        isBegun("the second one is still short", "9999-999");
        reads("the least ones", "0-0", "0");
        reads("the greatest ones", "9999-9999", "9999");
        hasError("no first one", 0, "-5");
        isBegun("no second one", "5-");
        hasError("no second one ahead of a comma", 2, "5-,");
        hasError("two dashes", 2, "5--");
        hasError("three numbers", 3, "5-6-7");
    }

    private static void textOrder() {
        promise("Terms, input text");
        says("Each part has to begin with a number greater than all numbers of the part ahead of it.");
        reads("one greater", "5,6", "5 6");
        isBegun("the same one, but it may become greater", "5,5");
        hasError("the same one, and the part ends", 3, "5,5,");
        hasError("the same one, and its second number begins", 3, "5,5-");
        hasError("the same one of four digits", 8, "9998,9998");
        reads("one greater, of four digits", "9998,9999", "9998 9999");
        hasError("one less, of four digits", 8, "9998,9997");
        reads("one greater than a range", "5-7,8", "5 6 7 8");
        isBegun("the last one of a range", "5-7,7");
        hasError("the last one of a range, of four digits", 13, "4990-5000,5000");
        hasError("one within a range", 12, "1000-1009,1005");
        reads("one greater than a range of four digits", "4998-5000,5001", "4998 4999 5000 5001");
        reads("a range that begins one greater", "5,6-7", "5 6 7");
        hasError("less than the last one, greater than the one ahead of it", 6, "5,90,8,");
        hasError("0 behind 0", 2, "0,0");
        hasError("0 behind a range of 0", 4, "0-0,0");
        reads("1 behind 0", "0,1", "0 1");
        reads("1 behind a range of 0", "0-0,1", "0 1");
    }

    private static void textZeros() {
        promise("Terms, input text");
        says("Numbers are without leading zeros.");
        reads("0 alone", "0", "0");
        reads("0 behind another digit", "10,100", "10 100");
        hasError("0 ahead of 0", 1, "00");
        hasError("0 ahead of another digit", 1, "01");
        hasError("0 ahead of another digit in a range", 3, "0-01");
        hasError("0 in a later part", 2, "3,0");
        hasError("0 as the second number of a greater one", 2, "3-0");
        hasError("0 as the second number of 1", 2, "1-0");
        reads("0 ahead of a part", "0,1", "0 1");
        reads("0 ahead of a dash", "0-1", "0 1");
    }

    private static void textErrors() {
        promise("Terms, input text");
        says("a character is a syntax error if no set as a text, of any length, begins with the characters before "
                + "it and this character");
        hasError("the first character", 0, "x1");
        hasError("the first one of several errors", 1, "1x,,00");
        isBegun("a full buffer whose last number is still short", SIXTY.substring(0, 58) + ",3");
        isBegun("a full buffer with a comma at its end", SIXTY.substring(0, 59) + ",");
        isBegun("a full buffer with a dash at its end", SIXTY.substring(0, 59) + "-");
        hasError("the last character of a full buffer", 59, SIXTY.substring(0, 59) + "x");
        is("no error in a full buffer", 60, () -> typed(SIXTY), x -> x.firstError());
        is("no error in an empty buffer", 0, Bounds::fresh, x -> x.firstError());
        says("(How many numbers there are is no matter of syntax.)");
        is("61 numbers", 4, () -> typed("0-60"), x -> x.firstError());
        is("10000 numbers", 6, () -> typed("0-9999"), x -> x.firstError());
        refused("61 numbers are too many for a set", STATE, () -> typed("0-60"), x -> x.read(0));
    }

    /** Each character that can be appended, behind each kind of text. */
    private static void textErrorsByCharacter() {
        promise("Terms, input text");
        says("a character is a syntax error if no set as a text, of any length, begins with the characters before "
                + "it and this character");
        takesJust("", "0123456789");
        takesJust("0", ",-");
        takesJust("0,", "123456789");
        takesJust("1-", "123456789");
        takesJust("0-0", ",");
        takesJust("5", "0123456789,-");
        takesJust("5,", "123456789");
        takesJust("5-", "123456789");
        takesJust("5-6", "0123456789,");
        takesJust("5-4", "0123456789");
        takesJust("0-", "0123456789");
        takesJust("9989,", "9");
        takesJust("9989,99", "9");
        takesJust("9989,999", "0123456789");
        takesJust("9998,9", "9");
        takesJust("9999", "-");
        takesJust("9999-", "9");
        takesJust("9999-9999", "");
        takesJust("1234", ",-");
    }

    private static void takesJust(String text, String next) {
        for (char c = 33; c <= 126; c++) {
            String longer = text + c;
            boolean fits = next.indexOf(c) >= 0;
            is("'" + c + "' behind '" + text + "'", fits ? longer.length() : text.length(),
                    () -> typed(longer), x -> x.firstError());
        }
    }

    // ---- undo

    private static void undoableMethods() {
        promise("Terms, undo");
        says("Each method that is marked \"undoable\" and does not throw an exception saves the state from before "
                + "it (also if it changes nothing)");
        saves("add", Bounds::some, x -> x.add(0, 9));
        saves("add of a member", Bounds::some, x -> x.add(0, 10));
        saves("remove", Bounds::some, x -> x.remove(0, 10));
        saves("remove of no member", Bounds::some, x -> x.remove(0, 9));
        saves("removeRange", Bounds::some, x -> x.removeRange(0, 11, 441));
        saves("removeRange of no member", Bounds::some, x -> x.removeRange(0, 14, 139));
        saves("shift", Bounds::some, x -> x.shift(1, 999));
        saves("shift by 0", Bounds::some, x -> x.shift(1, 0));
        saves("shift of an empty set", Bounds::some, x -> x.shift(2, 5));
        saves("combine", Bounds::some, x -> x.combine(3, 0, 1, 3));
        saves("combine of a set with itself", Bounds::some, x -> x.combine(0, 0, 0, 0));
        saves("set of setting 0", Bounds::some, x -> x.set(0, 2));
        saves("set of setting 1", Bounds::some, x -> x.set(1, 1));
        saves("set to the same value", Bounds::some, x -> x.set(1, 300));
        saves("read", Bounds::some, x -> x.read(3));
        saves("read of the same members", () -> type(with(2, 7, 9), "7,9"), x -> x.read(2));
    }

    private static void undoOfNothing() {
        promise("Terms, undo");
        says("Each method that is marked \"undoable\" and does not throw an exception saves the state from before "
                + "it (also if it changes nothing)");
        Use[] notUndoable = {
            x -> x.append('1'), x -> x.clearBuffer(), x -> x.firstError(),
            x -> x.has(0, 10), x -> x.member(0, 0), x -> x.less(0, 10), x -> x.nearest(0, 10),
            x -> x.block(0, 0, 0), x -> x.of(0, 0), x -> x.leaps(0, 1, 3), x -> x.count(0), x -> x.setting(0),
            x -> x.ifSet(0, 2, 1), x -> x.ifAdded(0, 9), x -> x.dearest(0, 0), x -> x.bestWidth(),
            x -> x.smallness(), x -> x.digest()
        };
        for (int call = 0; call < notUndoable.length; call++) {
            Use use = notUndoable[call];
            is("call " + call + " of those that are not marked saves nothing", 0, Bounds::some, x -> {
                int before = x.count(6);
                use.on(x);
                return x.count(6) - before;
            });
        }
        is("undo saves nothing, but drops one", -1, Bounds::some, x -> {
            int before = x.count(6);
            x.undo();
            return x.count(6) - before;
        });
    }

    private static void undoKeepsTheBuffer() {
        promise("Terms, undo");
        says("all but the buffer and the saved states");
        is("what was appended stays", 4, () -> typed("1"), x -> {
            x.add(0, 1);
            x.append('2');
            x.append('3');
            x.append('4');
            x.undo();
            return x.clearBuffer();
        });
        is("what was cleared stays so", 0, () -> typed("1"), x -> {
            x.add(0, 1);
            x.clearBuffer();
            x.undo();
            return x.firstError() + x.clearBuffer();
        });
        is("what was read stays out of it", 0, () -> typed("1-3"), x -> {
            x.read(0);
            x.undo();
            return x.clearBuffer();
        });
        is("the older saved states stay", 5, Bounds::full, x -> x.undo());
    }

    private static GapSets added(int amount) {
        GapSets x = new GapSets();
        for (int number = 0; number < amount; number++) {
            x.add(0, number);
        }
        return x;
    }

    private static int undoAll(GapSets x) {
        for (int saved = x.count(6); saved > 0; saved--) {
            x.undo();
        }
        return x.of(0, 0);
    }

    private static void undoOfSixStates() {
        promise("Terms, undo");
        says("At most 6 states are saved; the oldest one is dropped first.");
        is("none in a new object", 0, Bounds::fresh, x -> x.count(6));
        is("5", 5, () -> added(5), x -> x.count(6));
        is("6", 6, () -> added(6), x -> x.count(6));
        is("6 of 7", 6, () -> added(7), x -> x.count(6));
        is("6 of 60", 6, () -> added(60), x -> x.count(6));
        is("of 6 the oldest one is the new object", 0, () -> added(6), TermsBoundsTest::undoAll);
        is("of 7 the oldest one is dropped", 1, () -> added(7), TermsBoundsTest::undoAll);
        is("of 12 the 6 oldest ones are dropped", 6, () -> added(12), TermsBoundsTest::undoAll);
        is("of 13 the 7 oldest ones are dropped", 7, () -> added(13), TermsBoundsTest::undoAll);
        refused("a 7th undo", STATE, () -> {
            GapSets x = added(7);
            undoAll(x);
            return x;
        }, x -> x.undo());
        // Those with 0 and 1 members are dropped, those with 7 and 6 undone, and with 6, 7 and 8 saved: then
        // that with 2 is dropped.
        is("saved, undone, and saved again", 3, () -> added(8), x -> {
            x.undo();
            x.undo();
            put(x, 0, 20, 21, 22);
            return undoAll(x);
        });
    }
}
