/** Turns: each sentence of promises 16 to 19, and of the terms, that names a boundary. */
public final class TurnSentencesTest {
  private static final Sentences s = new Sentences();

  public static void main(String[] args) {
    emptying();
    emptyingDownhill();
    filling();
    fillingDownhill();
    leaking();
    turn();
    ledger();
    wipe();
    total();
    as512Calls();
    s.finish(16, 19);
  }

  private static void emptying() {
    s.of("Terms", "A TURN empties a CHAMBER that is FULL, fills one that is EMPTY, SLICE by SLICE.", """
        head(1)
        turn() = 1; chamber(0) = 1; ledger(0, 1..3) = 1 0 1
        turn() = 1; chamber(0) = 0; ledger(1, 1..3) = 0 0 1
        new
        head(60)
        turn() = 60; chamber(0) = 60; ledger(0, 1..3) = 1 0 60
        turn() = 60; chamber(0) = 0; ledger(1, 1..3) = 0 0 60
        """);
    s.of("Terms", "EMPTYING: a SLICE may go into a BASIN that is in use", """
        head(10); basin(0, 5, 1); basin(0, 5, 1)
        turn() = 10
        step(0..9) = 0*5 1*2 NONE*3
        out(0) = 1; step(0..9) = 1*5 NONE*5
        out(1) = 3; step(0..9) = NONE
        turn() = 10; info(0..1, 4) = 0
        """);
    s.of("Terms", "holds less than ROOM", """
        head(10); basin(0, 2, 1)
        turn() = 10 8; info(0, 4) = 2
        # It is full, and takes none.
        out(0); turn() = 10; out(0)
        turn() = 10; info(0, 4) = 2
        # It is one short, and takes one.
        out(0); leak(0, 1); turn() = 10; leak(0, 0); out(0)
        info(0, 4) = 1
        turn() = 9; info(0, 4) = 2
        # The least room.
        new
        head(10); basin(0, 1, 1); turn() = 10 9; info(0, 4) = 1
        # The most room: 45, then 15, then none.
        new
        head(60); basin(0, 60, 3); turn() = 60 15
        out(0); turn() = 60; out(0); turn() = 45; info(0, 4) = 60
        out(0); turn() = 60; out(0); turn() = 60; info(0, 4) = 60
        """);
    s.of("Terms", "it goes to the one with the greatest LEVEL then", """
        head(12); basin(0, 1, 1); basin(5, 1, 1); basin(3, 1, 1)
        turn() = 12
        step(0..11) = 1 2 0 NONE*9
        new
        # Both are at 12: with the slice they are at 14 and 18.
        head(12); basin(2, 9, 3); basin(2, 1, 1)
        turn() = 12
        step(0..11) = 1 0*6 NONE*5
        new
        # The greatest of those that it may go to: 36 is above 30.
        head(6); basin(0, 9, 1); basin(5, 9, 1)
        turn() = 6
        step(0..5) = 0*3 NONE*3
        """);
    s.of("Terms", "it goes to the one with the greatest LEVEL then, of like ones the least", """
        head(12); basin(2, 1, 1) * 4
        turn() = 12
        step(0..11) = 0..3 NONE*8
        out(0); step(0..11) = 1..3 NONE*9
        """);
    s.of("Terms", "if it may go to none, it is LOST", """
        head(10); turn() = 10
        step(0..9) = NONE
        turn() = 10; ledger(1, 2..3) = 0 10; total(0..1) = 10
        """);
  }

  private static void emptyingDownhill() {
    String sentence = "whose LEVEL then is no more than that of the CHAMBER then (both with the SLICE moved)";
    s.of("Terms", sentence, """
        # 30 against 30, then 36 against 24.
        head(6); basin(4, 60, 1); turn() = 6
        step(0..5) = 0 NONE*5
        new
        # 36 against 30: without the slice moved, in one or in both, it would be no more.
        head(6); basin(5, 60, 1); turn() = 6
        step(0..5) = NONE
        turn() = 6
        """);
    s.of("Terms", sentence, """
        # Twice as wide: 21, 24 against 30, 24, then 27 against 18.
        head(6); basin(3, 60, 2); turn() = 6
        step(0..5) = 0*2 NONE*4
        new
        # 33 against 30.
        head(6); basin(5, 60, 2); turn() = 6
        step(0..5) = NONE
        """);
    s.of("Terms", sentence, """
        # Three times as wide: 14, 16, 18 against 30, 24, 18, then 20 against 12.
        head(6); basin(2, 60, 3); turn() = 6
        step(0..5) = 0*3 NONE*3
        new
        # 32 against 30.
        head(6); basin(5, 60, 3); turn() = 6
        step(0..5) = NONE
        """);
    s.of("Terms", sentence, """
        # As high as can be: 354 against 354; 356 is too high.
        head(60); basin(58, 60, 1); turn() = 60
        step(0..1) = 0 NONE
        new
        head(60); basin(59, 60, 3); turn() = 60
        step(0..59) = NONE
        new
        # As low as can be: the last slice leaves nothing in the chamber, and is lost whatever there is.
        head(1); basin(0, 60, 3) * 4; turn() = 1
        step(0) = NONE
        turn() = 1
        new
        # Two slices: 2 against 6.
        head(2); basin(0, 60, 3); turn() = 2
        step(0..1) = 0 NONE
        """);
  }

  private static void filling() {
    s.of("Terms", "FILLING: a SLICE may come from a BASIN in use that holds one", """
        head(20); basin(5, 2, 1); basin(5, 2, 1)
        turn() = 20 16; info(0..1, 4) = 2
        step(0..19) = 0 0 1 1 NONE*16
        out(0) = 1; step(0..19) = 1 1 NONE*18
        out(1) = 3; step(0..19) = NONE
        turn() = 20; info(0..1, 4) = 2
        new
        # One that holds one gives it, and no second one.
        head(20); basin(5, 1, 1); turn() = 20 19
        step(0..19) = 0 NONE*19
        turn() = 19; info(0, 4) = 0
        new
        # One that holds none gives none, however high it lies.
        basin(59, 60, 1)
        step(0..29) = NONE
        turn() = 30; info(0, 4) = 0
        """);
    s.of("Terms", "from the one with the least LEVEL then", """
        # Both are at 54: without the slice they are at 52 and 48.
        head(20); basin(8, 3, 3); basin(6, 3, 1)
        turn() = 20 14; info(0..1, 5) = 54
        step(0..19) = 1*3 0*3 NONE*14
        new
        # The least of those that it may come from: 12 is below 18.
        head(12); basin(1, 4, 1); basin(8, 2, 1)
        turn() = 12 6; info(0..1, 5) = 30 60
        step(0..11) = 0*2 1*2 NONE*8
        """);
    s.of("Terms", "from the one with the least LEVEL then, of like ones the least", """
        head(12); basin(4, 1, 1) * 4
        turn() = 12 8; info(0..3, 4) = 1
        step(0..11) = 0..3 NONE*8
        out(0); step(0..11) = 1..3 NONE*9
        """);
    s.of("Terms", "if from none, it is DRAWN (from above)", """
        head(10)
        step(0..9) = NONE
        turn() = 10; ledger(0, 2..3) = 0 10; total(0..1) = 10 0
        """);
  }

  private static void fillingDownhill() {
    String sentence = "and whose LEVEL then is no less than that of the CHAMBER then";
    s.of("Terms", sentence, """
        # 6 against 6.
        head(6); basin(1, 1, 1); turn() = 6 5
        step(0..5) = 0 NONE*5
        turn() = 5
        new
        # 0 against 6: without the slice moved it would be no less.
        head(6); basin(0, 1, 1); turn() = 6 5
        step(0..5) = NONE
        turn() = 6; info(0, 4) = 1
        """);
    s.of("Terms", sentence, """
        # Twice as wide: 6 against 6, then 3 against 12.
        head(6); basin(0, 3, 2); turn() = 6 3
        step(0..5) = 0 NONE*5
        new
        # 3 against 6.
        head(6); basin(0, 2, 2); turn() = 6 4
        step(0..5) = NONE
        """);
    s.of("Terms", sentence, """
        # Three times as wide: 6 against 6, then 4 against 12.
        head(6); basin(0, 4, 3); turn() = 6 2
        step(0..5) = 0 NONE*5
        new
        # 4 against 6.
        head(6); basin(0, 3, 3); turn() = 6 3
        step(0..5) = NONE
        """);
    s.of("Terms", sentence, """
        # Down to 60 against 60, so that all ten come.
        basin(10, 10, 1); turn() = 30 20
        step(0..10) = 0*10 NONE
        turn() = 20; info(0, 4) = 0
        new
        # Down to 60 against 54, then 54 against 60: one stays.
        basin(9, 10, 1); turn() = 30 20
        step(0..9) = 0*9 NONE
        turn() = 21; info(0, 4) = 1
        """);
  }

  private static void leaking() {
    String sentence = "Behind a TURN each BASIN, also one that is OUT, loses what its LEAK tells"
        + " (what it holds, if that is less): LEAKED.";
    s.of("Terms", sentence, """
        basin(0, 4, 1) * 4
        leak(0..3, 3) = 0; leak(0, 0) = 3; leak(1, 1) = 3; leak(2, 2) = 3
        # They hold none yet.
        turn() = 30; ledger(0, 4) = 0
        turn() = 14; ledger(1, 4..8) = 6 4 4 4 4
        info(0..3, 4) = 4 3 2 1
        # The last one holds less than its leak, the one ahead of it as much.
        out(0..3) = 1 3 7 15
        turn() = 30; ledger(2, 4) = 4; info(0..3, 4) = 4 2 0 0
        turn() = 30; ledger(3, 4) = 1; info(0..3, 4) = 4 1 0 0
        total(2) = 11
        """);
    s.of("Terms", "Behind a TURN each BASIN", """
        # What comes leaks behind the same turn.
        head(10); basin(0, 3, 1); leak(0, 3)
        turn() = 10 7; ledger(1, 2..5) = 3 7 3 3
        info(0, 4) = 0
        new
        # What goes is gone ahead of the leak.
        head(10); basin(5, 2, 1); turn() = 10 8
        leak(0, 2) = 0
        turn() = 8; ledger(2, 2..5) = 2 8 0 2
        total(2) = 0
        """);
  }

  private static void turn() {
    s.of("Promise 16", "A TURN without a BOAT", """
        boat(1) = 0
        turn() = 30
        ledger(0, 0) = NONE; count(1) = 1; waits(1, 0) = 0
        """);
    s.of("Promise 16", "how many of its SLICES were LOST or DRAWN", """
        head(20); basin(10, 5, 1)
        turn() = 20 15
        # None is drawn: the basin gives five at 84 down to 60.
        head(5) = 20
        turn() = 0; ledger(2, 2..3) = 5 0
        # All are lost: the basin lies too high.
        turn() = 5; ledger(3, 2..3) = 0 5
        """);
    s.of("Promise 16", "FULL: THE LEDGER is.", """
        head(1); turn() = 1*60 FULL*2
        count(2) = 60; total(4) = 60; total(0..1) = 30; chamber(0) = 0
        wipe() = 60
        turn() = 1
        # Also while it is full, and would leak.
        new
        head(10); basin(0, 5, 3); turn() = 10 5; out(0)
        turn() = 10*57; count(2) = 59; chamber(0) = 10
        leak(0, 3)
        turn() = 10; info(0, 4) = 2
        turn() = FULL; info(0, 4) = 2; total(2) = 3
        """);
  }

  private static void ledger() {
    s.of("Terms", "THE LEDGER has TURNS, 0 on, 60 at most.", """
        ledger(0, 1) = BAD
        head(1); turn() = 1; ledger(0, 1) = 1; ledger(1, 1) = BAD
        turn() = 1*58; ledger(58, 1) = 1; ledger(59, 1) = BAD
        turn() = 1; ledger(59, 1) = 0; ledger(60, 1) = BAD
        turn() = FULL; ledger(60, 1) = BAD
        """);
    s.of("Promise 17", "the BOAT (what = 0; NONE)", """
        boat(0) = 0
        serve() = 0
        ledger(0..1, 0) = NONE 0
        """);
    s.of("Promise 17", "whether it filled (1: 1, 0)", """
        turn() = 30*3
        ledger(0..2, 1) = 1 0 1
        """);
    s.of("Promise 17", "SLICES to or from BASINS (2), LOST or DRAWN (3), LEAKED behind it (4)", """
        # None and all of them: drawn; five kept, of which three leaked; both that are left come back.
        head(20); basin(10, 5, 1); leak(0, 3)
        turn() = 20 15; ledger(0, 2..4) = 0 20 0; ledger(1, 2..4) = 5 15 3
        leak(0, 0); head(2)
        turn() = 0; ledger(2, 2..4) = 2 0 0
        """);
    s.of("Promise 17", "to or from BASIN 0 to 3 (5 to 8)", """
        basin(20, 1, 1); basin(15, 2, 1); basin(10, 3, 1); basin(5, 4, 1)
        turn() = 30 20 20
        ledger(0, 0..8) = NONE 1 0 30 0 0 0 0 0
        ledger(1, 0..8) = NONE 0 10 20 0 1 2 3 4
        ledger(2, 0..8) = NONE 1 10 20 0 1 2 3 4
        # It stays as it was told when the basin is gone.
        back() = 3 2; ledger(2, 5..8) = 1 2 3 4
        # Those that are not there have none.
        turn() = 27; ledger(3, 5..8) = 1 2 0 0
        """);
    s.of("Promise 17", "BAD", """
        ledger(0, 0) = BAD
        turn() = 30*2
        ledger(-1, 0) = BAD; ledger(2, 0) = BAD; ledger(60, 0) = BAD; ledger(LEAST, 0) = BAD; ledger(MOST, 0) = BAD
        ledger(0, -1) = BAD; ledger(0, 9) = BAD; ledger(0, LEAST) = BAD; ledger(0, MOST) = BAD
        ledger(1, -1) = BAD; ledger(1, 9) = BAD
        # Times nine these wrap to 5 and to 4.
        ledger(477218589, 0) = BAD; ledger(-477218588, 0) = BAD
        wipe() = 2
        ledger(0..1, 0..8) = BAD
        """);
  }

  private static void wipe() {
    s.of("Promise 18", "THE LEDGER is empty: how many TURNS it had.", """
        wipe() = 0 0
        turn() = 30; wipe() = 1 0
        count(2) = 0; ledger(0, 0) = BAD
        turn() = 30*60; wipe() = 60 0
        # All else stays.
        total(0..4) = 930 900 0 0 61; chamber(0) = 30
        # What comes next is turn 0 again, and has nothing of what stood there.
        boat(0) = 0; serve() = 0
        ledger(0, 0..8) = 0 0 0 30 0 0 0 0 0
        new
        basin(20, 1, 1); boat(0) = 0; leak(0, 1)
        serve() = 0; ledger(1, 0..8) = 0 0 1 29 1 1 0 0 0
        wipe() = 2
        turn() = 30 29; wipe() = 2
        out(0); turn() = 30*2
        ledger(0..1, 5) = 0; ledger(0..1, 4) = 0; ledger(0..1, 0) = NONE
        """);
  }

  private static void total() {
    s.of("Promise 19", "Of all TURNS that ever were DRAWN (what = 0), LOST (1), LEAKED (2)", """
        head(10); basin(5, 2, 1); basin(0, 3, 1); leak(1, 1)
        # 10 drawn; 5 kept, 5 lost, 1 leaked; 3 come back, 7 drawn, 1 leaked.
        turn() = 10 5 7
        total(0..4) = 17 5 2 0 3
        # Also of those that were wiped.
        wipe() = 3
        total(0..4) = 17 5 2 0 3
        """);
    s.of("Promise 19", "SLICES in all BASINS now (3)", """
        total(3) = 0
        basin(0, 4, 1) * 4
        turn() = 30 14
        total(3) = 16
        # Also of those that are out.
        out(0); out(3); total(3) = 16
        """);
    s.of("Promise 19", "TURNS (4)", """
        total(4) = 0
        head(1); turn() = 1*60 FULL
        total(4) = 60
        wipe(); turn() = 1
        total(4) = 61
        boat(1) = 0; serve() = 0
        total(4) = 63
        """);
    s.of("Promise 19", "BAD", """
        total(-1) = BAD; total(5) = BAD; total(LEAST) = BAD; total(MOST) = BAD
        """);
  }

  private static void as512Calls() {
    String sixty = "turn() = 30*60; wipe() = 60\n";
    s.ofLongRun("What it is", "An object is used for at most 512 calls after it has been made", sixty.repeat(8) + """
        total(0..4) = 7200 7200 0 0 480
        turn() = 30*18
        ledger(17, 1) = 0
        """);
  }
}
