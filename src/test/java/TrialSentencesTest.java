/** What would be: each sentence of promises 20 to 23, and of the terms, that names a boundary. */
public final class TrialSentencesTest {
  private static final Sentences s = new Sentences();

  public static void main(String[] args) {
    terms();
    step();
    ahead();
    better();
    betterAtTheTop();
    needless();
    s.finish(20, 23);
  }

  private static void terms() {
    s.of("Terms", "2 STEPS of a TURN, as it would be now", """
        # It is told of a turn that the ledger has no room for, too, and whatever boats wait.
        head(10); basin(2, 3, 1); turn() = 10 7
        boat(0) = 0
        step(0..9) = 0 0 NONE*8
        # The two come, and one stays: 12 would be below 18.
        turn() = 8*58 FULL
        step(0..9) = 0 0 NONE*8
        """);
    s.of("Terms", "of each SLICE the BASIN to which it goes, from which it comes; NONE: LOST, DRAWN.", """
        basin(20, 1, 1); basin(15, 2, 1); basin(10, 3, 1); basin(5, 4, 1)
        # Drawn.
        step(0..29) = NONE
        # To which it goes; lost.
        turn() = 30; step(0..29) = 0 1*2 2*3 3*4 NONE*20
        # From which it comes; drawn.
        turn() = 20; step(0..29) = 3*4 2*3 1*2 0 NONE*20
        """);
    s.of("Terms", "AHEAD of n TURNS from now on (without BOATS): what is DRAWN by them all.", """
        # Boats and their turns ahead are not in it, nor is what is lost.
        boat(0) = 0 1
        ahead(0..5) = 0 30 30 60 60 90
        turn() = 30
        ahead(0..5) = 0 0 30 30 60 60
        # The ledger's room is not asked for.
        new
        head(1); turn() = 1*60
        ahead(40) = 20
        """);
  }

  private static void step() {
    s.of("Promise 20", "STEPS: how many (i = NONE)", """
        step(NONE) = 30
        head(1); step(NONE) = 1
        turn() = 1; step(NONE) = 1
        new
        head(60); step(NONE) = 60
        turn() = 60; step(NONE) = 60
        """);
    s.of("Promise 20", "the i-th (0 to 59; NONE)", """
        # Ten slices come at first, then a turn has three alone: what is behind them is NONE.
        basin(10, 10, 1); turn() = 30 20
        step(0..59) = 0*10 NONE*50
        head(3); step(0..59) = 0*3 NONE*57
        head(60); step(0..59) = 0*10 NONE*50
        head(1); step(0..59) = 0 NONE*59
        """);
    s.of("Promise 20", "BAD", """
        step(-2) = BAD; step(LEAST) = BAD; step(60) = BAD; step(MOST) = BAD
        head(60)
        step(59) = NONE; step(60) = BAD
        """);
  }

  private static void ahead() {
    s.of("Promise 21", "AHEAD of n TURNS (0 to 40)", """
        head(60)
        ahead(0) = 0; ahead(1) = 60; ahead(39) = 1200; ahead(40) = 1200
        turn() = 60
        ahead(0) = 0; ahead(1) = 0; ahead(39) = 1140; ahead(40) = 1200
        new
        # None is drawn as long as there is any of the five that are kept.
        head(20); basin(10, 5, 1); turn() = 20 15
        head(1)
        ahead(9) = 0; ahead(10) = 0; ahead(11) = 1; ahead(40) = 15
        """);
    s.of("Promise 21", "BAD", """
        ahead(-1) = BAD; ahead(LEAST) = BAD; ahead(41) = BAD; ahead(MOST) = BAD
        """);
  }

  private static void better() {
    s.of("Terms", "its BOTTOM (0 to 59), in place of what it is, by which ten TURNS from now on DRAW least", """
        # 10 at first, then 7 four times; nine turns would do as well, eleven would not.
        head(10); basin(0, 3, 1)
        better(0, 0..1) = 3 38
        # 7 five times; eleven turns would do as well, nine would not.
        turn() = 10
        better(0, 0..1) = 3 35
        info(0, 0) = 0; ahead(10) = 45
        new
        # What it holds it holds wherever it lies: the slice comes from 1 up, and once.
        head(2); basin(0, 1, 1); turn() = 2 1
        ahead(10) = 10
        better(0, 0..1) = 1 9
        new
        # None is drawn at all from 1 up.
        head(20); basin(10, 5, 1); turn() = 20 15
        head(1)
        better(0, 0..1) = 1 0
        """);
    s.of("Terms", "DRAW least, of like ones the least. NEEDLESS", """
        # It is as good where it lies, at 4, and no better.
        head(10); basin(4, 3, 1)
        ahead(10) = 38
        better(0, 0..1) = 3 38
        new
        # They are all alike for one that takes none and holds none.
        head(1); basin(59, 60, 3)
        better(0, 0..1) = 0 5
        new
        # So they are for one that is out.
        head(10); basin(4, 3, 1); out(0)
        better(0, 0..1) = 0 50
        turn() = 10
        better(0, 0..1) = 0 50
        """);
    s.of("Promise 22", "which BOTTOM (what = 0), what is DRAWN then (1)", """
        head(60); basin(59, 1, 1) * 4
        better(0..3, 0) = 1; better(0..3, 1) = 296
        """);
    s.of("Promise 22", "BAD", """
        better(0, 0) = BAD
        basin(0, 1, 1)
        better(-1, 0) = BAD; better(1, 0) = BAD; better(4, 0) = BAD; better(LEAST, 0) = BAD; better(MOST, 0) = BAD
        better(0, -1) = BAD; better(0, 2) = BAD; better(0, LEAST) = BAD; better(0, MOST) = BAD
        """);
  }

  /**
   * Three basins hold 58 slices that reach just up to level 348, and the fourth holds two. At 59 it gives one, to
   * slice 59 (for slice 60 it would be too low by then), lower down it does harm; at 60, where none may lie, it
   * would give both.
   */
  private static void betterAtTheTop() {
    s.of("Terms", "its BOTTOM (0 to 59)", """
        head(60); basin(44, 44, 3); basin(55, 11, 3); basin(58, 3, 3); basin(0, 2, 1)
        out(0..3) = 1 3 7 15
        turn() = 60
        """ + takeAlone(0, 10) + takeAlone(1, 6) + takeAlone(2, 3) + takeAlone(3, 1) + """
        turn() = 60
        out(0..3) = 14 12 8 0
        info(0..3, 4) = 44 11 3 2; chamber(0) = 0
        leak(0, 3); leak(3, 2)
        better(3, 0..1) = 59 201
        """);
  }

  /** From a full chamber to a full one again, so many times; the basin is in use while it empties. */
  private static String takeAlone(int i, int times) {
    return ("out(" + i + "); turn(); out(" + i + "); turn()\n").repeat(times);
  }

  private static void needless() {
    s.of("Terms", "NEEDLESS: the BASIN in use that, were it OUT, makes ten TURNS from now on DRAW least", """
        # 84 without either small one, 92 without the first; nine turns would do as well, eleven would not.
        head(20); basin(3, 3, 1); basin(12, 1, 1); basin(11, 1, 1)
        ahead(10) = 80
        needless(0..1) = 1 84
        # Eleven turns would do as well, nine would not.
        turn() = 20
        needless(0..1) = 1 80
        new
        # The last one, which neither takes nor gives.
        head(20); basin(12, 2, 1); basin(5, 3, 1); basin(59, 1, 1)
        needless(0..1) = 2 80
        # Were it out already, it is not asked about.
        out(2) = 4
        needless(0..1) = 0 88
        """);
    s.of("Terms", "makes ten TURNS from now on DRAW least, of like ones the least.", """
        head(40); basin(8, 2, 1) * 4
        needless(0..1) = 0 176
        out(0) = 1
        needless(0..1) = 1 184
        out(1) = 3; out(2) = 7
        needless(0..1) = 3 200
        new
        # None is drawn without either one.
        basin(10, 5, 1); basin(10, 5, 1); turn() = 30 20
        head(1)
        needless(0..1) = 0 0
        """);
    s.of("Promise 23", "which (what = 0), what is DRAWN then (1)", """
        # The most that ten turns can draw, and the last basin that there can be.
        head(60); basin(59, 1, 1) * 4
        needless(0..1) = 0 300
        out(0..2) = 1 3 7
        needless(0..1) = 3 300
        """);
    s.of("Promise 23", "NONE: none is in use", """
        needless(0..1) = NONE
        basin(0, 1, 1) * 4
        needless(0) = 0
        out(0..3) = 1 3 7 15
        needless(0..1) = NONE
        out(3) = 7
        needless(0..1) = 3 150
        """);
    s.of("Promise 23", "BAD", """
        needless(-1) = BAD; needless(2) = BAD; needless(LEAST) = BAD; needless(MOST) = BAD
        basin(0, 1, 1)
        needless(-1) = BAD; needless(2) = BAD
        """);
  }
}
