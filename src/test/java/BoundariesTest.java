/**
 * Each sentence of the document that names a boundary case has a test of its own here: the last
 * number inside and the first outside of a range, nothing at all, as much as there may be and one
 * more, just enough and one less, and refused calls with nothing changed behind them (the lines with
 * an arrow "!>", see Script). The titles begin with the sentence.
 */
public final class BoundariesTest {
    /** State (a, b) has entry a + 2 b; by their places the weights are 1 3 5 2 4 0. One bag of 6 cells. */
    private static final String PAIR = """
        names 2 3
        factor 3
        entries 0 1 2 3 4 5 0
        """;

    /** 0 joined with 1, 2 and 3: by numbers the first bag has all names, and 48 cells. */
    private static final String STAR = """
        names 2 3 4 2
        factor 3
        factor 5
        factor 9
        """;

    /** Four names in a ring, 0 - 1 - 2 - 3 - 0. */
    private static final String RING = """
        names 2 2 2 2
        factor 3
        factor 6
        factor 12
        factor 9
        """;

    /** 16 copies of 6 factors; the first five have three each. */
    private static final String ALL_COPIES = """
        names 2 2 2 2 2
        6 x factor 1
        copies 0 3
        copies 1 3
        copies 2 3
        copies 3 3
        copies 4 3
        """;

    /** As many states as there may be, of 8 names. */
    private static final String ALL_STATES = "8 x name 4\n";

    private final Check check = new Check();

    public static void main(String[] args) {
        BoundariesTest tests = new BoundariesTest();
        tests.namesAndStates();
        tests.factorsAndCopies();
        tests.graphAndOrders();
        tests.promises1To3();
        tests.promises4To6();
        tests.promises7And8();
        tests.promise9();
        tests.promises10And11();
        tests.promises12And13();
        tests.promises14And15();
        tests.promise16();
        tests.promises17And18();
        tests.promise19();
        tests.promises20And21();
        tests.withoutNames();
        tests.withoutFactors();
        tests.everythingFull();
        tests.memory();
        tests.totalsOfNothing();
        tests.endsOfIntAndLong();
        tests.firstAnswerThatFits();
        tests.answersBehindChanges();
        tests.numberOfCalls();
        tests.check.end();
    }

    private void test(String sentence, String calls) {
        new Script(sentence, calls).check(check);
    }

    // ---- the section "Terms"

    private void namesAndStates() {
        test("NAMES have numbers from 0", """
            name 2 -> 0
            name 4 -> 1
            name 3 -> 2
            """);
        test("NAMES: 12 at most", """
            11 x name 2
            name 2 -> 11
            name 2 !> -4
            name 4 !> -4
            told 0 -> 12
            told 3 -> 4096
            best 11 -> 0
            best 12 !> -1
            """);
        test("each has VALUES 0 .. n - 1, n = 2", """
            name 2
            evidence 0 2 !> -2
            evidence 0 1 -> NONE
            best 0 -> 1
            evidence 0 0 -> 1
            best 0 -> 0
            """);
        test("each has VALUES 0 .. n - 1, n = 3", """
            name 3
            evidence 0 3 !> -2
            evidence 0 2 -> NONE
            best 0 -> 2
            """);
        test("each has VALUES 0 .. n - 1, n = 4", """
            name 4
            evidence 0 4 !> -2
            evidence 0 3 -> NONE
            best 0 -> 3
            """);
        test("STATES are 65536 at most: 4 to the 8th", """
            7 x name 4
            told 3 -> 16384
            name 4 -> 7
            told 3 -> 65536
            name 2 !> -4
            told 3 -> 65536
            """);
        test("STATES are 65536 at most: twice 32768, but not three times", """
            7 x name 4
            name 2 -> 7
            name 3 !> -4
            name 4 !> -4
            name 2 -> 8
            told 3 -> 65536
            """);
        test("STATES are 65536 at most: not twice 34992, the least product beyond", """
            7 x name 3
            names 4 4
            told 3 -> 34992
            name 2 !> -4
            told 0 -> 9
            """);
        test("STATES are 65536 at most: not twice 59049", """
            10 x name 3
            name 2 !> -4
            told 3 -> 59049
            """);
        test("Of two STATES that is first which has the lesser VALUE for the first NAME", PAIR + """
            weight 0 -> 1
            weight 1 -> 3
            weight 2 -> 5
            weight 3 -> 2
            weight 4 -> 4
            weight 5 -> 0
            """);
        test("Without NAMES there is one STATE", """
            told 3 -> 1
            weight 0 -> 1
            weight 1 !> -2
            total -> 1
            support -> 1
            """);
    }

    private void factorsAndCopies() {
        test("FACTORS (16 at most)", """
            name 2
            15 x factor 1
            factor 1 -> 15
            factor 1 !> -4
            factor 0 !> -4
            told 1 -> 16
            put 15 1 7 -> 1
            put 16 1 7 !> -1
            weight 1 -> 7
            """);
        test("FACTORS are over SETS of 4 at most", """
            names 2 2 2 2 2
            factor 15 -> 0
            factor 30 -> 1
            factor 31 !> -2
            told 1 -> 2
            """);
        test("FACTORS are over SETS of 4 at most: of all 12 NAMES", """
            12 x name 2
            factor 3840 -> 0
            factor 3968 !> -2
            factor 4095 !> -2
            factor 4096 !> -1
            put 0 15 0 -> 1
            weight 15 -> 0
            weight 4095 -> 0
            weight 4094 -> 1
            """);
        test("FACTORS over a SET of none: one ENTRY", """
            name 2
            factor 0 -> 0
            put 0 0 5 -> 1
            put 0 1 5 !> -2
            total -> 10
            told 4 -> 0
            """);
        test("each has ENTRIES 0 to 7, 1 at first", PAIR + """
            factor 3
            put 1 0 7 -> 1
            put 1 5 0 -> 1
            put 1 0 8 !> -2
            put 1 0 -1 !> -2
            put 1 0 7 -> 7
            put 1 5 0 -> 0
            weight 0 -> 7
            """);
        test("one for each choice of VALUES: 256 of four NAMES with 4", """
            names 4 4 4 4
            factor 15
            put 0 255 3 -> 1
            put 0 256 3 !> -2
            weight 255 -> 3
            weight 254 -> 1
            """);
        test("its number is the sum of its NAMES' VALUES, each times the product of the lesser ones'", """
            names 2 3 4
            factor 7
            put 0 23 7
            put 0 1 2
            put 0 2 3
            put 0 6 4
            weight 23 -> 7
            weight 12 -> 2
            weight 4 -> 3
            weight 1 -> 4
            """);
        test("the product of how many VALUES the lesser NAMES of the SET have: not of others", """
            names 3 4 2
            factor 5
            put 0 5 7
            put 0 3 6
            put 0 6 6 !> -2
            weight 23 -> 7
            weight 21 -> 7
            weight 17 -> 7
            weight 1 -> 6
            weight 7 -> 6
            weight 0 -> 1
            """);
        test("It counts COPIES times, 1 to 3, 1 at first", PAIR + """
            copies 0 1 -> 1
            weight 4 -> 4
            copies 0 2 -> 1
            weight 4 -> 16
            copies 0 3 -> 2
            weight 4 -> 64
            copies 0 4 !> -2
            copies 0 0 !> -2
            copies 0 1 -> 3
            weight 4 -> 4
            """);
        test("all COPIES together are 16 at most", ALL_COPIES + """
            told 2 -> 16
            copies 5 2 !> -4
            copies 5 3 !> -4
            copies 5 1 -> 1
            copies 4 3 -> 3
            copies 4 2 -> 3
            copies 5 3 !> -4
            copies 5 2 -> 1
            told 2 -> 16
            """);
        test("EVIDENCE: a NAME may be bound to one VALUE: 0 if it has another", PAIR + """
            evidence 1 1
            weight 0 -> 0
            weight 1 -> 3
            weight 2 -> 0
            weight 4 -> 4
            total -> 7
            evidence 0 0
            total -> 3
            support -> 1
            """);
        test("THE WEIGHT is the product of all FACTORS' ENTRIES: 7 to the 16th", """
            name 2
            5 x factor 1
            entries 0 0 7
            entries 1 0 7
            entries 2 0 7
            entries 3 0 7
            entries 4 0 7
            factor 0
            put 5 0 7
            copies 0 3
            copies 1 3
            copies 2 3
            copies 3 3
            copies 4 3
            weight 1 -> 33232930569601
            total -> 33232930569601
            greatest -> 33232930569601
            """);
    }

    private void graphAndOrders() {
        test("two NAMES are NEIGHBOURS if a FACTOR has both: none by one NAME, 6 pairs by four", """
            names 2 2 2 2 2
            factor 0
            factor 1
            factor 16
            told 4 -> 0
            factor 3
            told 4 -> 1
            factor 15
            told 4 -> 6
            factor 15
            told 4 -> 6
            """);
        test("EVIDENCE counts for nothing here", STAR + """
            evidence 0 1
            told 4 -> 3
            apart 1 2 0 -> 0
            taken 0 1 -> 15
            taken 0 3 -> 48
            memory 47
            total -> -4
            """);
        test("nor do ENTRIES of 0 or 1", PAIR + """
            entries 0 0 0 0 0 0 0
            told 4 -> 1
            apart 0 1 0 -> 0
            taken 0 3 -> 6
            """);
        test("FILL is how many pairs become NEIGHBOURS so that were not", STAR + """
            told 7 -> 3
            factor 6
            told 7 -> 2
            factor 14
            told 7 -> 0
            """);
        test("WIDTH is the size of the greatest BAG less 1: 0 without NEIGHBOURS", """
            names 4 4
            told 6 -> 0
            order 5 -> 0
            factor 3
            told 6 -> 1
            """);
        test("WIDTH: without NAMES -1", """
            told 6 -> -1
            order 0 -> -1
            order 1 -> -1
            order 2 -> -1
            order 3 -> -1
            order 4 -> -1
            order 5 -> -1
            told 6 -> -1
            """);
        tiesOfOrders();
        test("The PARENT of a BAG is that of the first NAME taken out behind it that is in it", """
            names 2 2 2 2
            factor 9
            factor 10
            factor 12
            taken 0 2 -> 3
            taken 1 2 -> 3
            taken 2 2 -> 3
            factor 5
            taken 0 2 -> 2
            """);
        test("The PARENT: NONE if there is none", """
            names 2 2 2
            factor 3
            taken 0 2 -> 1
            taken 1 2 -> NONE
            taken 2 2 -> NONE
            """);
        test("THE ORDER is that of the latest order(); 0 without", STAR + """
            told 5 -> 0
            taken 0 0 -> 0
            order 2
            told 5 -> 2
            taken 0 0 -> 1
            order 3
            told 5 -> 3
            order 0
            told 5 -> 0
            taken 0 0 -> 0
            """);
        test("THE ORDER is 0 when a NAME came since", STAR + """
            order 5
            taken 0 0 -> 1
            name 2
            told 5 -> 0
            taken 0 0 -> 0
            taken 4 0 -> 4
            told 6 -> 3
            """);
        test("THE ORDER is 0 when a FACTOR came since, also one over no NAME", STAR + """
            order 5
            factor 0
            told 5 -> 0
            taken 0 0 -> 0
            """);
        test("THE ORDER of the same kind again is that of the new NAMES and FACTORS", STAR + """
            order 5 -> 1
            factor 14
            order 5 -> 3
            told 4 -> 6
            taken 0 1 -> 15
            name 2
            order 5 -> 3
            taken 0 0 -> 2
            taken 4 0 -> 4
            taken 4 1 -> 16
            """);
        test("THE ORDER stays when all but a NAME or FACTOR comes", STAR + """
            order 4
            put 0 0 0
            copies 0 2
            evidence 0 1
            memory 9
            places 0 1 2 3
            told 5 -> 4
            taken 0 0 -> 3
            """);
        test("RANK: STATES of WEIGHT above 0, the greatest first, of one WEIGHT the first STATE first", """
            names 2 3
            factor 3
            entries 0 2 2 0 3 2 2
            rank 0 NONE -> 3
            rank 0 0 -> 1
            rank 0 1 -> 1
            rank 1 NONE -> 2
            rank 1 0 -> 0
            rank 1 1 -> 0
            rank 2 0 -> 0
            rank 2 1 -> 2
            rank 3 0 -> 1
            rank 3 1 -> 0
            rank 4 0 -> 1
            rank 4 1 -> 2
            rank 5 NONE !> -3
            """);
    }

    private void tiesOfOrders() {
        for (int kind = 2; kind <= 4; kind++) {
            test("ORDERS by rules (of several the least), kind " + kind, RING + "order " + kind + """
                 -> 2
                taken 0 0 -> 0
                taken 0 1 -> 11
                taken 1 0 -> 1
                taken 1 1 -> 14
                taken 2 0 -> 2
                taken 3 0 -> 3
                """);
        }
        test("2 with the fewest NEIGHBOURS, those that are left", """
            names 2 2 2 2 2
            factor 11
            factor 14
            factor 17
            order 2 -> 2
            taken 0 0 -> 4
            taken 1 0 -> 0
            taken 2 0 -> 1
            taken 3 0 -> 2
            """);
        test("3 with the least FILL, not the fewest NEIGHBOURS", """
            names 2 2 2 2 2 2
            factor 1
            factor 3
            factor 5
            factor 58
            order 3 -> 3
            taken 0 0 -> 2
            taken 1 0 -> 0
            taken 2 0 -> 1
            told 7 -> 0
            """);
        test("4 whose BAG has the fewest CELLS, not the fewest NAMES", """
            names 4 4 2 2 2
            factor 3
            factor 28
            order 4 -> 2
            taken 0 0 -> 2
            taken 1 0 -> 3
            taken 2 0 -> 4
            taken 3 0 -> 0
            """);
        test("5 of all orders those of least WIDTH, of these the fewest CELLS, of these the first", RING + """
            order 5 -> 2
            told 8 -> 22
            taken 0 0 -> 0
            taken 1 0 -> 1
            taken 2 0 -> 2
            taken 3 0 -> 3
            """);
        test("5: the fewest CELLS in all come before the first order", """
            names 2 4
            factor 3
            order 5 -> 1
            told 8 -> 10
            taken 0 0 -> 1
            taken 1 0 -> 0
            """);
        test("5: the least WIDTH is that of the greatest BAG, wherever it stands", """
            names 2 2 2 2 2
            factor 30
            factor 3
            order 5 -> 3
            taken 0 0 -> 0
            taken 1 1 -> 30
            told 8 -> 34
            """);
        test("5: the least WIDTH comes before the fewest CELLS, also when it is looked for again", """
            names 4 4 2 2 2
            factor 5
            factor 9
            factor 17
            factor 6
            factor 10
            factor 18
            order 5 -> 2
            told 8 -> 106
            factor 0
            order 5 -> 2
            told 8 -> 106
            taken 0 0 -> 2
            taken 1 0 -> 3
            taken 2 0 -> 0
            taken 3 0 -> 1
            taken 4 0 -> 4
            """);
        test("5: the least WIDTH comes before the fewest CELLS", """
            names 2 2 2 4 4
            factor 9
            factor 17
            factor 10
            factor 18
            factor 12
            factor 20
            places 3 4 0 1 2
            order 1 -> 3
            told 8 -> 78
            order 5 -> 2
            told 8 -> 106
            taken 0 0 -> 0
            taken 1 0 -> 1
            taken 2 0 -> 3
            taken 3 0 -> 4
            taken 4 0 -> 2
            """);
    }

    // ---- the promises, one by one

    private void promises1To3() {
        test("Promise 1: No NAMES, no FACTORS", """
            told 0 -> 0
            told 1 -> 0
            told 2 -> 0
            factor 1 !> -1
            put 0 0 1 !> -1
            copies 0 1 !> -1
            evidence 0 0 !> -1
            evidence 0 NONE !> -1
            place 0 0 !> -1
            taken 0 0 !> -1
            share 1 0 0 !> -1
            best 0 !> -1
            rank 0 0 !> -1
            among 0 0 !> -1
            drawn 0 0 !> -1
            apart 0 0 0 !> -1
            """);
        test("Promise 2: -2, n below 2 and above 4", """
            name 1 !> -2
            name 0 !> -2
            name -1 !> -2
            name 5 !> -2
            name 2 -> 0
            name 3 -> 1
            name 4 -> 2
            name 1 !> -2
            name 5 !> -2
            told 0 -> 3
            told 3 -> 24
            """);
        test("Promise 2: -4 behind an ORDER: that stays", """
            11 x name 2
            factor 1025
            order 3
            taken 0 0 -> 0
            name 2
            order 3
            name 2 !> -4
            name 1 !> -2
            told 5 -> 3
            """);
        test("Promise 3: -1 (a NAME of it, or bits below 0)", """
            names 2 2
            factor 4 !> -1
            factor 5 !> -1
            factor 1073741824 !> -1
            factor 1073741825 !> -1
            factor -1 !> -1
            factor -2147483645 !> -1
            factor 3 -> 0
            """);
        test("Promise 3: -2 more than 4", """
            names 2 2 2 2 2 2
            factor 31 !> -2
            factor 62 !> -2
            factor 63 !> -2
            factor 60 -> 0
            """);
        test("Promise 3: -4 also 16 COPIES", ALL_COPIES + """
            told 1 -> 6
            factor 0 !> -4
            factor 1 !> -4
            copies 0 2
            factor 0 -> 6
            factor 0 !> -4
            told 2 -> 16
            """);
        test("Promise 3: a refused FACTOR makes no NEIGHBOURS", """
            names 2 2 2 2 2
            order 2
            factor 31 !> -2
            factor 35 !> -1
            told 4 -> 0
            told 5 -> 2
            apart 0 1 0 -> 1
            """);
    }

    private void promises4To6() {
        test("Promise 4: An ENTRY becomes v: what it was", PAIR + """
            put 0 0 1 -> 1
            put 0 0 0 -> 1
            put 0 0 7 -> 0
            put 0 0 3 -> 7
            weight 0 -> 3
            total -> 17
            """);
        test("Promise 4: -1, a FACTOR below the first and behind the last", PAIR + """
            put -1 0 1 !> -1
            put 1 0 1 !> -1
            put 16 0 1 !> -1
            factor 0
            put 1 0 5 -> 1
            put 2 0 5 !> -1
            """);
        test("Promise 4: -2 entry", PAIR + """
            put 0 -1 7 !> -2
            put 0 6 7 !> -2
            put 0 5 7 -> 0
            put 0 0 7 -> 1
            """);
        test("Promise 4: -2 v", PAIR + """
            put 0 0 -1 !> -2
            put 0 0 8 !> -2
            put 0 0 7 -> 1
            put 0 0 0 -> 7
            """);
        test("Promise 4: -2 entry and v, each by itself and both", PAIR + """
            put 0 6 8 !> -2
            put 0 -1 -1 !> -2
            total -> 15
            """);
        test("Promise 5: COPIES: what they were", PAIR + """
            copies 0 3 -> 1
            copies 0 3 -> 3
            copies 0 2 -> 3
            copies 0 1 -> 2
            told 2 -> 1
            """);
        test("Promise 5: -1", PAIR + """
            copies -1 1 !> -1
            copies 1 1 !> -1
            copies 15 1 !> -1
            copies 16 1 !> -1
            """);
        test("Promise 5: -2", PAIR + """
            copies 0 0 !> -2
            copies 0 -1 !> -2
            copies 0 4 !> -2
            told 2 -> 1
            """);
        test("Promise 5: -4, one more than 16", """
            name 2
            14 x factor 1
            copies 0 3 -> 1
            told 2 -> 16
            copies 1 2 !> -4
            copies 13 3 !> -4
            copies 0 3 -> 3
            copies 0 2 -> 3
            copies 1 3 !> -4
            copies 1 2 -> 1
            told 2 -> 16
            """);
        test("Promise 6: EVIDENCE: a VALUE, or NONE: what it was", PAIR + """
            evidence 1 NONE -> NONE
            evidence 1 2 -> NONE
            evidence 1 2 -> 2
            evidence 1 0 -> 2
            evidence 1 NONE -> 0
            total -> 15
            """);
        test("Promise 6: -1", PAIR + """
            evidence -1 0 !> -1
            evidence 2 0 !> -1
            evidence 12 0 !> -1
            evidence 32 0 !> -1
            name 2
            evidence 2 0 -> NONE
            """);
        test("Promise 6: -2, behind the last VALUE and below NONE", PAIR + """
            evidence 0 2 !> -2
            evidence 1 3 !> -2
            evidence 0 -2 !> -2
            evidence 0 1
            evidence 0 2 !> -2
            evidence 0 -2 !> -2
            evidence 0 1 -> 1
            """);
    }

    private void promises7And8() {
        test("Promise 7: MEMORY (1 .. 65536): what it was. -2", PAIR + """
            memory 65536 -> 65536
            memory 65537 !> -2
            memory 0 !> -2
            memory -1 !> -2
            memory 1 -> 65536
            memory 0 !> -2
            memory 65536 -> 1
            memory 2 -> 65536
            """);
        test("Promise 8: all are NONE at first", """
            name 2
            place 0 0 -> NONE
            place 1 0 -> NONE
            place 2 0 -> NONE
            place 3 0 -> NONE
            place 4 0 -> NONE
            place 5 0 -> NONE
            place 6 0 -> NONE
            place 7 0 -> NONE
            place 8 0 -> NONE
            place 9 0 -> NONE
            place 10 0 -> NONE
            place 11 0 -> NONE
            place 11 0 -> 0
            """);
        test("Promise 8: place i (0 .. 11): -2 i", """
            names 2 2
            place -1 1 !> -2
            place 12 1 !> -2
            place 0 1 -> NONE
            place 11 1 -> NONE
            place 0 0 -> 1
            place 11 0 -> 1
            """);
        test("Promise 8: -1, an unknown NAME", """
            names 2 2
            place 0 1
            place 0 2 !> -1
            place 0 -2 !> -1
            place 0 32 !> -1
            place 0 12 !> -1
            place 0 0 -> 1
            """);
        test("Promise 8: NONE is no NAME", """
            names 2 2
            place 0 1
            place 0 NONE !> -1
            place 1 NONE !> -1
            place 0 1 -> 1
            """);
        test("Promise 8: a NAME may stand at several places", """
            names 2 2
            place 0 0 -> NONE
            place 5 0 -> NONE
            place 0 1 -> 0
            place 5 0 -> 0
            """);
    }

    private void promise9() {
        test("Promise 9: THE ORDER becomes that of a kind: its WIDTH", STAR + """
            order 0 -> 3
            order 2 -> 1
            order 3 -> 1
            order 4 -> 1
            order 5 -> 1
            told 5 -> 5
            """);
        test("Promise 9: -2, a kind below 0 and above 5", STAR + """
            order 5
            order -1 !> -2
            order 6 !> -2
            told 5 -> 5
            order 0
            order 6 !> -2
            told 5 -> 0
            """);
        test("Promise 9: -3 no place told", """
            name 2
            order 1 !> -3
            place 0 0
            order 1 -> 0
            """);
        test("Promise 9: -3 one of the first places is NONE", STAR + """
            place 0 3
            place 1 2
            place 3 0
            place 4 1
            order 1 !> -3
            place 2 1
            order 1 -> 1
            taken 0 0 -> 3
            taken 3 0 -> 0
            """);
        test("Promise 9: -3 one NAME is there twice", STAR + """
            order 3
            places 3 2 3 0
            order 1 !> -3
            told 5 -> 3
            place 2 1
            order 1 -> 1
            """);
        test("Promise 9: the first places, as many as there are NAMES: later ones do not count", """
            names 2 2
            places 1 0 1 1 0 0 1 1 0 0 1 1
            order 1 -> 0
            taken 0 0 -> 1
            name 2
            order 1 !> -3
            place 2 2
            order 1 -> 0
            told 5 -> 1
            """);
        test("Promise 9: of kind 1 all 12 places", """
            12 x name 2
            places 11 10 9 8 7 6 5 4 3 2 1
            order 1 !> -3
            place 11 1
            order 1 !> -3
            place 11 0
            order 1 -> 0
            taken 0 0 -> 11
            taken 11 0 -> 0
            """);
        test("Promise 9: of kind 1 without NAMES nothing is missing", """
            order 1 -> -1
            told 5 -> 1
            """);
        test("Promise 9: places told later do not change THE ORDER", STAR + """
            places 3 2 1 0
            order 1 -> 1
            place 0 0
            place 3 3
            taken 0 0 -> 3
            told 6 -> 1
            order 1 -> 3
            taken 0 0 -> 0
            """);
        test("Promise 9: a refused order() leaves what total() works by", STAR + """
            memory 8
            total -> -4
            order 2
            total -> 48
            order 1 !> -3
            order 6 !> -2
            total -> 48
            """);
    }

    private void promises10And11() {
        test("Promise 10: 0 the NAME, 1 its BAG (bits), 2 the PARENT (a place), 3 the BAG'S CELLS", STAR + """
            order 2
            taken 0 0 -> 1
            taken 0 1 -> 3
            taken 0 2 -> 2
            taken 0 3 -> 6
            taken 3 0 -> 3
            taken 3 1 -> 8
            taken 3 2 -> NONE
            taken 3 3 -> 2
            """);
        test("Promise 10: -1, a place below 0 and behind the last NAME", STAR + """
            taken -1 0 !> -1
            taken 4 0 !> -1
            taken 11 0 !> -1
            taken 12 0 !> -1
            order 5
            taken 4 0 !> -1
            taken 4 3 !> -1
            name 2
            taken 4 0 -> 4
            taken 5 0 !> -1
            """);
        test("Promise 10: -2", STAR + """
            taken 0 -1 !> -2
            taken 0 4 !> -2
            taken 3 -1 !> -2
            taken 3 4 !> -2
            """);
        test("Promise 11: 0 NAMES, 1 FACTORS, 2 COPIES, 3 STATES, 4 pairs; of THE ORDER 5 .. 9", STAR + """
            copies 2 3
            told 0 -> 4
            told 1 -> 3
            told 2 -> 5
            told 3 -> 48
            told 4 -> 3
            told 5 -> 0
            told 6 -> 3
            told 7 -> 3
            told 8 -> 82
            told 9 -> 48
            order 2
            told 5 -> 2
            told 6 -> 1
            told 7 -> 0
            told 8 -> 20
            told 9 -> 8
            """);
        test("Promise 11: -2", STAR + """
            told -1 !> -2
            told 10 !> -2
            """);
        test("Promise 11: 9 of the greatest BAG: that of the most CELLS, not of the most NAMES", """
            names 2 2 2 4 4
            factor 7
            factor 24
            told 6 -> 2
            taken 0 3 -> 8
            taken 3 3 -> 16
            told 9 -> 16
            memory 16
            total -> 128
            memory 15
            total -> -4
            """);
        test("Promise 11: 9 of the greatest BAG, wherever it stands", """
            names 2 2 4 4 2
            factor 3
            factor 6
            factor 12
            factor 24
            told 9 -> 16
            taken 2 3 -> 16
            memory 16
            total -> 128
            memory 15
            total -> -4
            """);
    }

    private void promises12And13() {
        test("Promise 12: the greatest TOTAL that there may be", ALL_STATES + """
            16 x factor 0
            put 0 0 7
            put 1 0 7
            put 2 0 7
            put 3 0 7
            put 4 0 7
            put 5 0 7
            put 6 0 7
            put 7 0 7
            put 8 0 7
            put 9 0 7
            put 10 0 7
            put 11 0 7
            put 12 0 7
            put 13 0 7
            put 14 0 7
            put 15 0 7
            total -> 2177953337809371136
            greatest -> 33232930569601
            share 255 65535 0 -> 1
            share 255 65535 1 -> 65536
            rank 23 NONE -> 33232930569601
            drawn 2177953337809371135 7 -> 3
            drawn 2177953337809371136 7 !> -3
            drawn 2177953337809371135 0 -> 3
            drawn 2144720407239770 7 -> 0
            drawn 33232930569600 7 -> 0
            drawn 33232930569601 7 -> 1
            put 0 0 0
            total -> 0
            """);
        test("Promise 13: in lowest terms: none of TOTAL, and all of it", PAIR + """
            share 3 5 0 -> 0
            share 3 5 1 -> 1
            share 0 0 0 -> 1
            share 0 0 1 -> 1
            evidence 0 0
            share 1 0 0 -> 1
            share 1 0 1 -> 1
            share 1 1 0 -> 0
            share 1 1 1 -> 1
            """);
        test("Promise 13: in lowest terms: 3 and 5 of 15", PAIR + """
            share 2 0 0 -> 1
            share 2 0 1 -> 5
            share 2 2 0 -> 1
            share 2 2 1 -> 3
            share 2 1 0 -> 7
            share 2 1 1 -> 15
            """);
        test("Promise 13: the NAMES of a SET (any): of none, of all, of more than four", """
            names 2 3 2 2 2
            share 0 0 1 -> 1
            share 31 47 0 -> 1
            share 31 47 1 -> 48
            share 31 48 0 !> -2
            evidence 4 1
            share 31 23 0 -> 0
            share 31 24 0 -> 1
            share 31 24 1 -> 24
            """);
        test("Promise 13: -1", PAIR + """
            share 4 0 0 !> -1
            share 7 0 0 !> -1
            share -1 0 0 !> -1
            share -4 0 0 !> -1
            share 1073741824 0 0 !> -1
            """);
        test("Promise 13: -2 number, below 0 and behind the last of its SET", PAIR + """
            share 0 -1 0 !> -2
            share 0 1 0 !> -2
            share 1 1 0 -> 2
            share 1 2 0 !> -2
            share 2 2 1 -> 3
            share 2 3 0 !> -2
            share 3 5 1 -> 1
            share 3 6 0 !> -2
            share 3 -1 1 !> -2
            """);
        test("Promise 13: -2 what", PAIR + """
            share 3 0 -1 !> -2
            share 3 0 2 !> -2
            share 3 0 0 -> 1
            share 3 0 1 -> 15
            """);
        test("Promise 13: -3 TOTAL is 0", PAIR + """
            evidence 0 1
            evidence 1 2
            share 3 5 0 !> -3
            share 0 0 1 !> -3
            share 0 0 0 !> -3
            evidence 1 1
            share 0 0 0 -> 1
            """);
    }

    private void promises14And15() {
        test("Promise 14: The greatest WEIGHT, also 0", PAIR + """
            greatest -> 5
            put 0 5 7
            greatest -> 7
            evidence 0 1
            put 0 5 0
            greatest -> 4
            evidence 1 2
            greatest -> 0
            """);
        test("Promise 15: in the first STATE of the greatest WEIGHT", """
            names 2 3
            factor 3
            entries 0 1 7 7 1 1 7
            best 0 -> 0
            best 1 -> 1
            put 0 2 6
            best 0 -> 1
            best 1 -> 0
            put 0 1 6
            best 0 -> 1
            best 1 -> 2
            """);
        test("Promise 15: -1", PAIR + """
            best -1 !> -1
            best 2 !> -1
            best 12 !> -1
            best 32 !> -1
            best 1 -> 2
            """);
        test("Promise 15: -3 that is 0", PAIR + """
            evidence 0 1
            evidence 1 2
            best 0 !> -3
            best 1 !> -3
            put 0 5 1
            best 0 -> 1
            """);
    }

    private void promise16() {
        test("Promise 16: RANK k (0 .. 23): 24 STATES have all RANKS", """
            names 2 3 4
            rank 23 NONE -> 1
            rank 23 0 -> 1
            rank 23 1 -> 2
            rank 23 2 -> 3
            rank 22 2 -> 2
            rank 24 NONE !> -2
            rank -1 NONE !> -2
            """);
        test("Promise 16: -3 there are not so many: 23 of 24", """
            names 2 3 4
            factor 7
            put 0 0 0
            rank 22 NONE -> 1
            rank 22 2 -> 3
            rank 0 2 -> 1
            rank 23 NONE !> -3
            rank 23 0 !> -3
            put 0 0 1
            rank 23 NONE -> 1
            """);
        test("Promise 16: more STATES than RANKS: the first of the last WEIGHT", """
            names 3 3 3
            factor 4
            rank 23 0 -> 2
            rank 23 1 -> 1
            rank 23 2 -> 2
            rank 24 0 !> -2
            put 0 2 5
            rank 0 2 -> 2
            rank 8 NONE -> 5
            rank 9 NONE -> 1
            rank 23 0 -> 2
            rank 23 1 -> 1
            rank 23 2 -> 0
            """);
        // By their places: one of weight 1, 23 of 3, one of 2, and two of 1, for which no rank is left.
        test("Promise 16: a later STATE takes the last RANK from a lighter one", """
            names 3 3 3
            factor 7
            entries 0 1 3 3 3 3 3 3 3 2 3 3 3 3 3 3 3 3 1 3 3 3 3 3 3 3 3 1
            rank 22 NONE -> 3
            rank 22 2 -> 2
            rank 23 NONE -> 2
            rank 23 0 -> 2
            rank 23 1 -> 2
            rank 23 2 -> 0
            """);
        test("Promise 16: one STATE alone, and the first that there isn't", PAIR + """
            evidence 0 0
            evidence 1 2
            rank 0 NONE -> 5
            rank 0 0 -> 0
            rank 0 1 -> 2
            rank 1 NONE !> -3
            rank 1 1 !> -3
            evidence 0 1
            rank 0 NONE !> -3
            """);
        test("Promise 16: -1, NONE is none of them", PAIR + """
            rank 0 NONE -> 5
            rank 0 -2 !> -1
            rank 0 2 !> -1
            rank 0 12 !> -1
            rank 0 32 !> -1
            """);
        test("Promise 16: -2 k", PAIR + """
            rank -1 NONE !> -2
            rank -1 0 !> -2
            rank 24 NONE !> -2
            rank 24 0 !> -2
            rank 4 NONE -> 1
            rank 5 NONE !> -3
            rank 23 NONE !> -3
            """);
    }

    private void promises17And18() {
        test("Promise 17: How many STATES have a WEIGHT above 0: none, one, all", PAIR + """
            support -> 5
            put 0 5 1
            support -> 6
            evidence 0 0
            evidence 1 0
            support -> 1
            put 0 0 0
            support -> 0
            """);
        test("Promise 17: all 65536", ALL_STATES + """
            support -> 65536
            among 7 3 -> 16384
            among 0 0 -> 16384
            """);
        test("Promise 18: STATES of WEIGHT above 0", PAIR + """
            among 0 0 -> 3
            among 0 1 -> 2
            among 1 2 -> 1
            evidence 0 1
            among 0 0 -> 0
            among 1 2 -> 0
            among 1 0 -> 1
            """);
        test("Promise 18: -1", PAIR + """
            among -1 0 !> -1
            among 2 0 !> -1
            among 32 0 !> -1
            """);
        test("Promise 18: -2", PAIR + """
            among 0 NONE !> -2
            among 0 2 !> -2
            among 1 2 -> 1
            among 1 3 !> -2
            among 1 -1 !> -2
            """);
    }

    private void promise19() {
        test("Promise 19: the first STATE for which the WEIGHTS up to it, and its own, are more than u", PAIR + """
            drawn 0 0 -> 0
            drawn 0 1 -> 0
            drawn 1 1 -> 1
            drawn 3 1 -> 1
            drawn 4 1 -> 2
            drawn 8 0 -> 0
            drawn 8 1 -> 2
            drawn 9 0 -> 1
            drawn 9 1 -> 0
            drawn 10 1 -> 0
            drawn 11 1 -> 1
            drawn 14 0 -> 1
            drawn 14 1 -> 1
            """);
        test("Promise 19: STATES of WEIGHT 0 are not drawn", PAIR + """
            put 0 0 0
            put 0 2 0
            drawn 0 0 -> 0
            drawn 0 1 -> 2
            drawn 5 0 -> 1
            drawn 10 1 -> 1
            """);
        test("Promise 19: -1", PAIR + """
            drawn 0 -1 !> -1
            drawn 0 2 !> -1
            drawn 0 32 !> -1
            """);
        test("Promise 19: -2 u is below 0", PAIR + """
            drawn -1 0 !> -2
            drawn -4294967296 0 !> -2
            drawn -4294967295 0 !> -2
            drawn 0 0 -> 0
            """);
        test("Promise 19: -3 TOTAL is not above u", PAIR + """
            drawn 14 0 -> 1
            drawn 15 0 !> -3
            drawn 16 0 !> -3
            drawn 4294967296 0 !> -3
            drawn 4294967297 0 !> -3
            put 0 5 1
            drawn 15 1 -> 2
            drawn 16 1 !> -3
            """);
    }

    private void promises20And21() {
        test("Promise 20: each way between two NAMES goes through a SET: 1, 0", RING + """
            apart 0 2 0 -> 0
            apart 0 2 2 -> 0
            apart 0 2 8 -> 0
            apart 0 2 10 -> 1
            apart 2 0 10 -> 1
            apart 0 1 12 -> 0
            """);
        test("Promise 20: each way of none", """
            names 2 2 2
            factor 3
            apart 0 2 0 -> 1
            apart 2 1 0 -> 1
            apart 0 2 2 -> 1
            """);
        test("Promise 20: also if one of them is in it", RING + """
            apart 0 1 1 -> 1
            apart 0 1 2 -> 1
            apart 0 1 3 -> 1
            apart 0 2 4 -> 1
            apart 0 2 1 -> 1
            apart 0 2 15 -> 1
            """);
        test("Promise 20: between a NAME and itself there is a way through it alone", RING + """
            apart 0 0 0 -> 0
            apart 0 0 14 -> 0
            apart 0 0 1 -> 1
            apart 3 3 7 -> 0
            apart 3 3 8 -> 1
            """);
        test("Promise 20: the longest way, and each NAME on it", """
            12 x name 2
            factor 3
            factor 6
            factor 12
            factor 24
            factor 48
            factor 96
            factor 192
            factor 384
            factor 768
            factor 1536
            factor 3072
            apart 0 11 0 -> 0
            apart 11 0 0 -> 0
            apart 0 11 2 -> 1
            apart 0 11 64 -> 1
            apart 11 0 1024 -> 1
            apart 11 0 2048 -> 1
            apart 0 10 2048 -> 0
            apart 0 11 4096 !> -1
            """);
        test("Promise 20: -1", RING + """
            apart -1 0 0 !> -1
            apart 4 0 0 !> -1
            apart 0 -1 0 !> -1
            apart 0 4 0 !> -1
            apart 32 0 0 !> -1
            apart 0 32 0 !> -1
            apart 0 1 16 !> -1
            apart 0 1 17 !> -1
            apart 0 0 16 !> -1
            apart 0 1 -1 !> -1
            """);
        test("Promise 21: by its place among all (0 the first). -2", PAIR + """
            weight 0 -> 1
            weight 5 -> 0
            weight 6 !> -2
            weight -1 !> -2
            name 2
            weight 6 -> 2
            weight 11 -> 0
            weight 12 !> -2
            """);
        test("Promise 21: as many STATES as there may be", ALL_STATES + """
            factor 129
            put 0 15 7
            put 0 3 5
            weight 65535 -> 7
            weight 49152 -> 5
            weight 49151 -> 1
            weight 65536 !> -2
            """);
    }

    // ---- nothing at all, and all that there may be

    private void withoutNames() {
        test("Without NAMES: all calls that ask for the one STATE", """
            total -> 1
            greatest -> 1
            support -> 1
            rank 0 NONE -> 1
            rank 1 NONE !> -3
            rank 23 NONE !> -3
            rank 24 NONE !> -2
            share 0 0 0 -> 1
            share 0 0 1 -> 1
            share 0 1 0 !> -2
            share 0 0 2 !> -2
            weight 0 -> 1
            """);
        test("Without NAMES: a FACTOR over none", """
            factor 0 -> 0
            put 0 0 7 -> 1
            copies 0 3 -> 1
            total -> 343
            rank 0 NONE -> 343
            share 0 0 0 -> 1
            share 0 0 1 -> 1
            put 0 0 0 -> 7
            total -> 0
            greatest -> 0
            support -> 0
            rank 0 NONE !> -3
            share 0 0 0 !> -3
            weight 0 -> 0
            """);
        test("Without NAMES: no BAG, so that MEMORY of 1 is enough", """
            memory 1
            total -> 1
            order 5 -> -1
            total -> 1
            told 7 -> 0
            told 8 -> 0
            told 9 -> 0
            """);
        test("Without NAMES: THE ORDER has a kind", """
            told 5 -> 0
            order 4 -> -1
            told 5 -> 4
            factor 0
            told 5 -> 0
            """);
    }

    private void withoutFactors() {
        test("Without FACTORS: each STATE has WEIGHT 1", """
            names 2 3
            total -> 6
            greatest -> 1
            support -> 6
            best 0 -> 0
            best 1 -> 0
            rank 5 NONE -> 1
            rank 5 1 -> 2
            rank 6 NONE !> -3
            among 1 2 -> 2
            drawn 5 1 -> 2
            drawn 6 1 !> -3
            share 3 5 1 -> 6
            weight 5 -> 1
            weight 6 !> -2
            """);
        test("Without FACTORS: no NEIGHBOURS", """
            names 2 3
            told 4 -> 0
            told 6 -> 0
            told 7 -> 0
            told 8 -> 5
            told 9 -> 3
            apart 0 1 0 -> 1
            taken 0 1 -> 1
            taken 1 1 -> 2
            taken 0 2 -> NONE
            memory 3
            total -> 6
            memory 2
            total -> -4
            """);
        test("Without FACTORS: calls for one", """
            name 2
            put 0 0 1 !> -1
            copies 0 1 !> -1
            """);
    }

    /** All 66 pairs are neighbours: each factor has two of the six groups of two names. */
    private static String everyPair() {
        StringBuilder text = new StringBuilder("8 x name 2\n4 x name 4\n");
        for (int one = 0; one < 6; one++) {
            for (int other = one + 1; other < 6; other++) {
                text.append("factor ").append(3 << 2 * one | 3 << 2 * other).append('\n');
            }
        }
        return text.toString();
    }

    private void everythingFull() {
        test("All 12 NAMES, 65536 STATES, 16 FACTORS, 66 pairs, and a BAG of all", everyPair() + """
            factor 0 -> 15
            told 0 -> 12
            told 1 -> 16
            told 2 -> 16
            told 3 -> 65536
            told 4 -> 66
            name 2 !> -4
            factor 0 !> -4
            copies 15 2 !> -4
            order 0 -> 11
            taken 0 1 -> 4095
            taken 0 3 -> 65536
            told 7 -> 0
            told 9 -> 65536
            total -> 65536
            memory 65535
            total -> -4
            order 5 -> 11
            total -> -4
            taken 0 0 -> 8
            taken 4 0 -> 0
            taken 11 0 -> 7
            told 8 -> 87550
            memory 65536
            total -> 65536
            """);
        test("All 12 NAMES: a SET of all", everyPair() + """
            share 4095 65535 0 -> 1
            share 4095 65535 1 -> 65536
            share 4095 65536 0 !> -2
            share 4096 0 0 !> -1
            share 8191 0 0 !> -1
            apart 0 11 2046 -> 0
            apart 0 11 4095 -> 1
            apart 0 11 4096 !> -1
            place 11 11 -> NONE
            place 0 12 !> -1
            taken 11 0 -> 11
            taken 12 0 !> -1
            evidence 11 3 -> NONE
            evidence 12 0 !> -1
            total -> 16384
            """);
    }

    // ---- MEMORY that is just enough, and one less

    private void memory() {
        String[] asked = {"total", "share 1 0 1", "greatest", "best 0", "rank 0 NONE", "rank 0 1", "support",
            "among 0 0", "drawn 0 0"};
        long[] answers = {48, 2, 1, 0, 1, 0, 48, 24, 0};
        for (int i = 0; i < asked.length; i++) {
            test("Calls that work by it answer -4 if one of its BAGS has more CELLS: " + asked[i], STAR
                + "memory 48\n" + asked[i] + " -> " + answers[i]
                + "\nmemory 47\n" + asked[i] + " !> -4"
                + "\nmemory 48\n" + asked[i] + " -> " + answers[i]);
        }
        test("MEMORY (65536 at first) is enough for a BAG of 65536 CELLS", ALL_STATES + """
            factor 15
            factor 113
            factor 129
            taken 0 3 -> 65536
            total -> 65536
            memory 65535 -> 65536
            total -> -4
            """);
        test("MEMORY for a BAG of 2 CELLS", """
            name 2
            memory 2
            total -> 2
            memory 1
            total -> -4
            """);
        int[] just = {48, 8, 8, 8, 8, 8};
        for (int kind = 0; kind < just.length; kind++) {
            test("MEMORY just enough for THE ORDER of kind " + kind, STAR + "places 1 3 0 2\norder " + kind
                + "\nmemory " + just[kind] + "\ntotal -> 48"
                + "\nmemory " + (just[kind] - 1) + "\ntotal -> -4");
        }
        test("MEMORY, when THE ORDER becomes 0 again", STAR + """
            memory 8
            order 4
            total -> 48
            factor 0
            total -> -4
            order 4
            total -> 48
            name 2
            total -> -4
            """);
        test("Calls that do not work by THE ORDER answer with too little MEMORY", STAR + """
            memory 1
            weight 47 -> 1
            apart 1 2 1 -> 1
            told 9 -> 48
            taken 0 3 -> 48
            put 0 0 7 -> 1
            copies 0 2 -> 1
            evidence 0 1 -> NONE
            place 0 0 -> NONE
            order 5 -> 1
            name 2 -> 4
            factor 16 -> 3
            """);
        test("MEMORY and EVIDENCE: a bound NAME counts for its BAG'S CELLS", PAIR + """
            evidence 0 0
            evidence 1 0
            memory 5
            total -> -4
            memory 6
            total -> 1
            """);
    }

    // ---- every TOTAL 0

    private void totalsOfNothing() {
        String asked = """
            total -> 0
            greatest -> 0
            support -> 0
            among 0 0 -> 0
            among 1 2 -> 0
            share 0 0 0 !> -3
            share 3 5 1 !> -3
            best 0 !> -3
            best 1 !> -3
            rank 0 NONE !> -3
            rank 0 1 !> -3
            drawn 0 0 !> -3
            drawn 0 1 !> -3
            weight 0 -> 0
            weight 5 -> 0
            """;
        test("TOTAL 0 by ENTRIES of 0", PAIR + "entries 0 0 0 0 0 0 0\n" + asked);
        test("TOTAL 0 by a FACTOR over no NAME", PAIR + "factor 0\nput 1 0 0\n" + asked);
        test("TOTAL 0 by EVIDENCE for a STATE of WEIGHT 0", PAIR + "evidence 0 1\nevidence 1 2\n" + asked);
        test("TOTAL 0 by two FACTORS that fit nowhere", PAIR + """
            factor 1
            factor 1
            entries 1 0 1
            entries 2 1 0
            """ + asked);
        test("TOTAL 0, and above it again", PAIR + """
            entries 0 0 0 0 0 0 0
            total -> 0
            put 0 5 1
            total -> 1
            best 1 -> 2
            drawn 0 1 -> 2
            share 3 5 0 -> 1
            rank 0 0 -> 1
            rank 1 0 !> -3
            """);
    }

    // ---- the least and the greatest int and long, for each argument

    private void endsOfIntAndLong() {
        String[] calls = {"name @ !> -2", "factor @ !> -1", "put @ 0 1 !> -1", "put 0 @ 1 !> -2", "put 0 0 @ !> -2",
            "copies @ 1 !> -1", "copies 0 @ !> -2", "evidence @ 0 !> -1", "evidence 0 @ !> -2", "memory @ !> -2",
            "place @ 0 !> -2", "place 0 @ !> -1", "order @ !> -2", "taken @ 0 !> -1", "taken 0 @ !> -2",
            "told @ !> -2", "share @ 0 0 !> -1", "share 3 @ 0 !> -2", "share 3 0 @ !> -2", "best @ !> -1",
            "rank @ 0 !> -2", "rank @ NONE !> -2", "rank 0 @ !> -1", "among @ 0 !> -1", "among 0 @ !> -2",
            "drawn 0 @ !> -1", "apart @ 0 0 !> -1", "apart 0 @ 0 !> -1", "apart 0 1 @ !> -1", "weight @ !> -2"};
        for (String call : calls) {
            test("the least int", PAIR + call.replace("@", "least"));
            test("the greatest int", PAIR + call.replace("@", "most"));
        }
        test("the least long", PAIR + "drawn least 0 !> -2");
        test("the greatest long", PAIR + "drawn most 0 !> -3");
        test("the least and the greatest of all at once", PAIR + """
            put least least least !> -1
            put most most most !> -1
            copies most most !> -1
            evidence least least !> -1
            place least most !> -2
            taken most least !> -1
            share least most least !> -1
            rank least most !> -1
            among most most !> -1
            drawn least least !> -1
            drawn most most !> -1
            apart least most least !> -1
            """);
        test("the least and the greatest int without NAMES", """
            share 0 most 0 !> -2
            share 0 least 1 !> -2
            rank most NONE !> -2
            weight most !> -2
            factor most !> -1
            factor least !> -1
            """);
    }

    // ---- "in the order in which it tells them, the first that fits"

    private void firstAnswerThatFits() {
        test("name: -2 before -4, of 12 NAMES", """
            12 x name 2
            name 1 !> -2
            name 5 !> -2
            name 2 !> -4
            """);
        test("name: -2 before -4, of 65536 STATES", ALL_STATES + """
            name 1 !> -2
            name 5 !> -2
            name 2 !> -4
            """);
        test("factor: -1 before -2 before -4", ALL_COPIES + """
            factor 63 !> -1
            factor 32 !> -1
            factor -1 !> -1
            factor 31 !> -2
            factor 15 !> -4
            copies 0 1
            factor 63 !> -1
            factor 31 !> -2
            factor 15 -> 6
            """);
        test("put: -1 before -2", PAIR + """
            put 1 6 0 !> -1
            put 1 0 8 !> -1
            put -1 -1 -1 !> -1
            """);
        test("copies: -1 before -2 before -4", ALL_COPIES + """
            copies 6 3 !> -1
            copies 6 4 !> -1
            copies -1 0 !> -1
            copies 5 4 !> -2
            copies 5 0 !> -2
            copies 5 3 !> -4
            """);
        test("evidence: -1 before -2", PAIR + """
            evidence 2 4 !> -1
            evidence -1 -2 !> -1
            evidence 2 NONE !> -1
            """);
        test("place: -2 before -1", PAIR + """
            place 12 2 !> -2
            place -1 NONE !> -2
            place 11 2 !> -1
            """);
        test("taken: -1 before -2", PAIR + """
            taken 2 4 !> -1
            taken -1 -1 !> -1
            """);
        // Too little memory and a total of 0, so that -4 and -3 fit wherever a call tells them.
        String nothing = PAIR + "entries 0 0 0 0 0 0 0\nmemory 5\n";
        test("share: -1 before -2 before -4 before -3", nothing + """
            share 4 6 2 !> -1
            share 4 6 0 !> -1
            share 4 0 2 !> -1
            share -1 0 0 !> -1
            share 3 6 0 !> -2
            share 3 0 2 !> -2
            share 3 0 0 !> -4
            memory 6
            share 4 0 0 !> -1
            share 3 6 0 !> -2
            share 3 0 2 !> -2
            share 3 0 0 !> -3
            """);
        test("best: -1 before -4 before -3", nothing + """
            best 2 !> -1
            best 0 !> -4
            memory 6
            best 2 !> -1
            best 0 !> -3
            """);
        test("rank: -1 before -2 before -4 before -3", nothing + """
            rank 24 2 !> -1
            rank 0 2 !> -1
            rank 24 0 !> -2
            rank -1 NONE !> -2
            rank 23 0 !> -4
            rank 0 NONE !> -4
            memory 6
            rank 0 2 !> -1
            rank 24 NONE !> -2
            rank 23 NONE !> -3
            """);
        test("among: -1 before -2 before -4", nothing + """
            among 2 3 !> -1
            among 2 0 !> -1
            among 1 3 !> -2
            among 1 2 !> -4
            memory 6
            among 1 2 -> 0
            """);
        test("drawn: -1 before -2 before -4 before -3", nothing + """
            drawn -1 2 !> -1
            drawn 0 2 !> -1
            drawn -1 0 !> -2
            drawn 0 0 !> -4
            memory 6
            drawn 0 2 !> -1
            drawn -1 0 !> -2
            drawn 0 0 !> -3
            """);
        test("weight: -2 and never -4", nothing + """
            weight 6 !> -2
            weight 5 -> 0
            """);
    }

    // ---- answers just before and just behind each call that changes something

    private void answersBehindChanges() {
        test("TOTAL when a NAME comes", PAIR + """
            total -> 15
            support -> 5
            name 4 -> 2
            total -> 60
            support -> 20
            best 2 -> 0
            drawn 3 2 -> 3
            """);
        test("TOTAL when a FACTOR comes, all of whose ENTRIES are 1", PAIR + """
            total -> 15
            factor 2 -> 1
            total -> 15
            put 1 0 2
            total -> 18
            """);
        test("TOTAL when COPIES change", PAIR + """
            total -> 15
            greatest -> 5
            copies 0 2 -> 1
            total -> 55
            greatest -> 25
            copies 0 1 -> 2
            total -> 15
            """);
        test("TOTAL when an ENTRY changes", PAIR + """
            total -> 15
            put 0 5 7 -> 0
            total -> 22
            greatest -> 7
            """);
        test("TOTAL when EVIDENCE changes", PAIR + """
            total -> 15
            evidence 0 1 -> NONE
            total -> 6
            evidence 0 NONE -> 1
            total -> 15
            """);
        test("TOTAL when MEMORY changes", PAIR + """
            total -> 15
            memory 5
            total -> -4
            memory 6
            total -> 15
            """);
    }

    private void numberOfCalls() {
        test("An object is used for at most 512 calls: the 512th is answered", PAIR + """
            501 x total
            put 0 5 6 -> 0
            total -> 21
            """);
    }
}
