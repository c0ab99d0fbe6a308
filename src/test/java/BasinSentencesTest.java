/** The chamber and the basins: each sentence of promises 1 to 9, and of the terms, that names a boundary. */
public final class BasinSentencesTest {
  private static final Sentences s = new Sentences();

  public static void main(String[] args) {
    newObject();
    chamberTerms();
    basinTerms();
    head();
    basin();
    back();
    out();
    leak();
    read();
    info();
    chamber();
    s.finish(1, 9);
  }

  private static void newObject() {
    s.of("Promise 1", "HEAD 30, the CHAMBER EMPTY", """
        chamber(0..2) = 0 0 30
        count(3) = 0
        head(30) = 30
        turn() = 30
        ledger(0, 1) = 1
        """);
    s.of("Promise 1", "no BASINS", """
        count(0) = 0; count(4) = 0; total(3) = 0
        info(0, 0) = BAD; out(0) = BAD; leak(0, 0) = BAD; better(0, 0) = BAD
        back() = NOT
        needless(0..1) = NONE
        """);
    s.of("Promise 1", "no BOATS", """
        count(1) = 0; count(7) = 0
        waits(0..1, NONE) = 0; waits(0..1, 0) = NONE
        next(0..1) = NONE 0
        leave(0) = NOT
        serve() = NOT
        boat(0) = 0
        """);
    s.of("Promise 1", "no TURNS", """
        count(2) = 0; count(5..6) = 0
        total(0..4) = 0
        ledger(0, 0) = BAD
        wipe() = 0
        """);
    s.of("Promise 1", "RULE 0", """
        rule(0) = 0
        new
        boat(0) = 0; boat(1) = 1
        next(0) = 0
        """);
    s.of("Promise 1", "all SHEETS are LOST", """
        count(8) = 0
        lose(0..3) = NULL
        new
        read(0..3) = NULL
        new
        write(0..3) = NULL
        new
        get(0..3, 0..2, 0) = LEAST/NULL
        """);
  }

  private static void chamberTerms() {
    s.of("Terms", "The CHAMBER is EMPTY (0) at first, or FULL: HEAD SLICES", """
        chamber(0) = 0
        turn() = 30; chamber(0) = 30
        turn() = 30; chamber(0) = 0
        """);
    s.of("Terms", "HEAD SLICES (1 to 60; 30 at first)", """
        head(1) = 30; turn() = 1; chamber(0..2) = 1 6 1
        turn() = 1; chamber(0..2) = 0 0 1
        new
        head(60) = 30; turn() = 60; chamber(0..2) = 60 360 60
        turn() = 60; chamber(0..2) = 0 0 60
        """);
    s.of("Terms", "its LEVEL is six for each SLICE in it", """
        chamber(1) = 0
        turn() = 30; chamber(1) = 180
        """);
  }

  private static void basinTerms() {
    s.of("Terms", "BASINS, 4 at most, are 0 on", """
        info(0, 0) = BAD
        basin(5, 1, 1) = 1; info(0, 0) = 5; info(1, 0) = BAD
        basin(6, 1, 1) = 2; basin(7, 1, 1) = 3
        info(3, 0) = BAD
        basin(8, 1, 1) = 4; info(3, 0) = 8; info(4, 0) = BAD
        basin(9, 1, 1) = FULL
        back() = 3; basin(9, 1, 1) = 4; info(3, 0) = 9
        """);
    s.of("Terms", "each has a BOTTOM (0 to 59, in SLICES)", """
        basin(-1, 1, 1) = BAD; basin(60, 1, 1) = BAD
        basin(0, 1, 1) = 1; basin(59, 1, 1) = 2
        info(0..1, 0) = 0 59
        """);
    s.of("Terms", "ROOM (1 to 60 SLICES)", """
        basin(0, 0, 1) = BAD; basin(0, 61, 1) = BAD
        basin(0, 1, 1) = 1; basin(0, 60, 1) = 2
        info(0..1, 1) = 1 60
        """);
    s.of("Terms", "is WIDE (1 to 3 times the CHAMBER)", """
        basin(0, 1, 0) = BAD; basin(0, 1, 4) = BAD
        basin(0, 1, 1) = 1; basin(0, 1, 2) = 2; basin(0, 1, 3) = 3
        info(0..2, 2) = 1 2 3
        """);
    s.of("Terms", "has a LEAK (0 to 3; 0 at first)", """
        basin(0, 1, 1) = 1
        info(0, 3) = 0
        leak(0, -1) = BAD; leak(0, 4) = BAD
        leak(0, 3) = 0; info(0, 3) = 3
        leak(0, 0) = 3; info(0, 3) = 0
        """);
    s.of("Terms", "is in use or OUT", """
        # A new one is in use: it takes.
        head(10); basin(0, 1, 1) = 1
        info(0, 6) = 0
        turn() = 10 9
        out(0) = 1; info(0, 6) = 1
        """);
    s.of("Terms", "and holds SLICES (0 at first)", """
        basin(59, 60, 3) = 1
        info(0, 4) = 0; info(0, 5) = 354
        # Also one that comes in the place of another.
        new
        head(10); basin(0, 3, 1); leak(0, 3)
        turn() = 10 7
        back() = 0
        basin(4, 3, 1) = 1; info(0, 3..5) = 0 0 24
        """);
    s.of("Terms", "its LEVEL is six times BOTTOM, and for each SLICE that it holds 6 by WIDE", """
        head(10)
        basin(0, 3, 1) = 1; basin(0, 3, 2) = 2; basin(0, 3, 3) = 3
        info(0..2, 5) = 0
        turn() = 10 1
        info(0..2, 4) = 3; info(0..2, 5) = 18 9 6
        new
        # As much as a basin can hold: 45 slices, then 15 more while it is out for the filling between.
        head(60); basin(0, 60, 3)
        turn() = 60 15; info(0, 4..5) = 45 90
        out(0); turn() = 60; out(0)
        turn() = 45; info(0, 4..5) = 60 120
        """);
  }

  private static void head() {
    s.of("Promise 2", "HEAD: what it was.", """
        head(7) = 30; head(7) = 7; head(1) = 7; head(60) = 1; head(30) = 60
        chamber(2) = 30
        # It is the chamber that must be empty, not the basins.
        new
        head(10); basin(0, 1, 1); turn() = 10 9
        count(4) = 1
        head(20) = 10
        """);
    s.of("Promise 2", "BAD", """
        head(0) = BAD; head(-1) = BAD; head(LEAST) = BAD
        head(61) = BAD; head(MOST) = BAD
        chamber(2) = 30
        head(1) = 30; head(60) = 1
        """);
    s.of("Promise 2", "NOT: the CHAMBER is not EMPTY.", """
        turn() = 30
        head(29) = NOT; head(30) = NOT; head(1) = NOT; head(60) = NOT
        chamber(0..2) = 30 180 30
        turn() = 30
        head(29) = 30
        # One slice is enough.
        new
        head(1); turn() = 1
        head(2) = NOT
        """);
    s.of("Promise 2", "BAD; NOT", """
        turn() = 30
        head(0) = BAD; head(61) = BAD; head(LEAST) = BAD
        """);
  }

  private static void basin() {
    s.of("Promise 3", "A BASIN more: how many.", """
        basin(0, 1, 1) = 1..4
        count(0) = 4
        """);
    s.of("Promise 3", "BAD", """
        basin(-1, 1, 1) = BAD; basin(LEAST, 1, 1) = BAD; basin(60, 1, 1) = BAD; basin(MOST, 1, 1) = BAD
        basin(0, 0, 1) = BAD; basin(0, -1, 1) = BAD; basin(0, LEAST, 1) = BAD
        basin(0, 61, 1) = BAD; basin(0, MOST, 1) = BAD
        basin(0, 1, 0) = BAD; basin(0, 1, -1) = BAD; basin(0, 1, LEAST) = BAD
        basin(0, 1, 4) = BAD; basin(0, 1, MOST) = BAD
        count(0) = 0
        basin(0, 1, 1) = 1; basin(59, 60, 3) = 2
        """);
    s.of("Promise 3", "FULL", """
        basin(0, 1, 1) = 1..4 FULL*2
        count(0) = 4
        # One that is out has its place still.
        out(3) = 8
        basin(0, 1, 1) = FULL
        back() = 3
        basin(0, 1, 1) = 4 FULL
        """);
    s.of("Promise 3", "BAD; FULL", """
        basin(0, 1, 1) = 1..4
        basin(60, 1, 1) = BAD; basin(0, 0, 1) = BAD; basin(0, 1, 4) = BAD
        """);
  }

  private static void back() {
    s.of("Promise 4", "The last BASIN is taken away: how many are left.", """
        basin(1, 1, 1); basin(2, 1, 1); basin(3, 1, 1); basin(4, 1, 1)
        back() = 3
        info(2, 0) = 3; info(3, 0) = BAD
        back() = 2 1 0
        count(0) = 0
        # That it was out goes with it.
        new
        basin(1, 1, 1); basin(2, 1, 1)
        out(1) = 2; back() = 1; out(0) = 1
        basin(2, 1, 1); info(1, 6) = 0
        """);
    s.of("Promise 4", "NOT: there is none", """
        back() = NOT
        basin(1, 1, 1); back() = 0 NOT
        """);
    s.of("Promise 4", "or it holds any.", """
        # One slice is enough, also in one that is out.
        head(10); basin(0, 1, 1)
        turn() = 10 9
        info(0, 4) = 1
        back() = NOT
        out(0) = 1; back() = NOT; out(0) = 0
        count(0) = 1
        # What it held has leaked.
        leak(0, 1); turn() = 10
        info(0, 4) = 0; back() = 0
        # Only the last one matters.
        new
        head(10); basin(0, 1, 1); basin(59, 1, 1)
        turn() = 10 9
        info(0..1, 4) = 1 0
        back() = 1 NOT
        """);
  }

  private static void out() {
    s.of("Promise 5", "A BASIN is OUT, or in use again: which are OUT, as bits.", """
        basin(0, 1, 1) * 4
        out(0) = 1 0 1; out(1) = 3; out(2) = 7; out(3) = 15
        info(0..3, 6) = 1
        out(0) = 14; out(3) = 6; out(1) = 4; out(2) = 0
        info(0..3, 6) = 0
        """);
    s.of("Promise 5", "BAD", """
        out(0) = BAD
        basin(0, 1, 1)
        out(-1) = BAD; out(1) = BAD; out(4) = BAD; out(LEAST) = BAD; out(MOST) = BAD
        # A shift by these would be one by 0.
        out(32) = BAD; out(-32) = BAD; out(64) = BAD
        info(0, 6) = 0
        basin(0, 1, 1) * 3
        out(4) = BAD
        out(3) = 8
        """);
  }

  private static void leak() {
    s.of("Promise 6", "LEAK of a BASIN: what it was.", """
        basin(0, 1, 1) * 4
        leak(0..3, 3) = 0; leak(0..3, 2) = 3; leak(0..3, 0) = 2; leak(0..3, 1) = 0
        leak(1, 3) = 1; info(0..3, 3) = 1 3 1 1
        """);
    s.of("Promise 6", "BAD", """
        leak(0, 0) = BAD
        basin(0, 1, 1)
        leak(-1, 0) = BAD; leak(1, 0) = BAD; leak(4, 0) = BAD; leak(LEAST, 0) = BAD; leak(MOST, 0) = BAD
        leak(0, -1) = BAD; leak(0, 4) = BAD; leak(0, LEAST) = BAD; leak(0, MOST) = BAD
        leak(0, 3) = 0; leak(0, 0) = 3
        """);
  }

  private static void read() {
    s.of("Promise 7", "its items, three for each", """
        sheet(0, 2, 6); lay(0, 2, 0, 7); lay(0, 2, 1, 8); lay(0, 2, 2, 2)
        lay(0, 2, 3, 59); lay(0, 2, 4, 60); lay(0, 2, 5, 3)
        read(0) = 2
        info(0, 0..6) = 7 8 2 0 0 42 0
        info(1, 0..6) = 59 60 3 0 0 354 0
        # They come behind those that are there.
        new
        basin(1, 1, 1)
        sheet(3, 0, 3); lay(3, 0, 0..2, 3)
        read(3) = 1
        count(0) = 2; info(0..1, 0) = 1 3
        """);
    s.of("Promise 7", "as many as are whole", """
        sheet(0, 0, 0); read(0) = 0
        new
        sheet(0, 0, 1); lay(0, 0, 0, 1); read(0) = 0
        new
        sheet(0, 0, 2); lay(0, 0, 0..1, 1); read(0) = 0; count(0) = 0
        new
        sheet(0, 0, 3); lay(0, 0, 0..2, 1); read(0) = 1
        new
        sheet(0, 0, 4); lay(0, 0, 0..3, 1); read(0) = 1
        new
        sheet(0, 0, 5); lay(0, 0, 0..4, 1); read(0) = 1; count(0) = 1
        new
        sheet(0, 0, 6); lay(0, 0, 0..5, 1); read(0) = 2; count(0) = 2
        # What an earlier and longer row had is no part of it.
        new
        sheet(0, 0, 6); lay(0, 0, 0..5, 1)
        sheet(0, 0, 5); lay(0, 0, 0..4, 1); read(0) = 1
        """);
    readAsLongAsEachMayBe();
    s.of("Promise 7", "and there is room", """
        sheet(0, 1, 60); lay(0, 1, 0..59, 2)
        read(0) = 4; count(0) = 4
        read(0) = 0; count(0) = 4
        back() = 3
        read(0) = 1 0
        """);
    s.of("Promise 7", "BAD", """
        read(-1) = BAD; read(4) = BAD; read(LEAST) = BAD; read(MOST) = BAD
        """);
    s.of("Promise 7", "NULL", """
        read(0..3) = NULL
        sheet(3, 0, 3); lay(3, 0, 0..2, 1)
        lose(3) = 3
        read(3) = NULL
        count(0) = 0
        """);
  }

  /** The second of three is wrong by one number, which stands just beside what may be. */
  private static void readAsLongAsEachMayBe() {
    String[] beside = {"0, 3, -1", "0, 3, 60", "0, 4, 0", "0, 4, -1", "0, 4, 61", "0, 5, 0", "0, 5, -1", "0, 5, 4"};
    for (String wrong : beside) {
      s.of("Promise 7", "as long as each may be", """
          sheet(0, 0, 9); lay(0, 0, 0..8, 3)
          lay(0, WRONG) = 1
          read(0) = 1; count(0) = 1; info(0, 0..2) = 3
          """.replace("WRONG", wrong));
    }
    String[] within = {"0, 3, 0", "0, 3, 59", "0, 4, 1", "0, 4, 60", "0, 5, 1", "0, 5, 3"};
    for (String right : within) {
      s.of("Promise 7", "as long as each may be", """
          sheet(0, 0, 9); lay(0, 0, 0..8, 3)
          lay(0, RIGHT) = 1
          read(0) = 3; count(0) = 3
          """.replace("RIGHT", right));
    }
    s.of("Promise 7", "as long as each may be", """
        # The first one: none comes, and those behind it neither.
        sheet(0, 2, 6); lay(0, 2, 0..5, 1); lay(0, 2, 0, LEAST)
        read(0) = 0; count(0) = 0
        new
        sheet(0, 2, 6); lay(0, 2, 0..5, 1); lay(0, 2, 2, MOST)
        read(0) = 0; count(0) = 0
        """);
  }

  private static void info() {
    s.of("Promise 8", "BOTTOM (what = 0), ROOM (1), WIDE (2), LEAK (3), SLICES that it holds (4), LEVEL (5)", """
        # The least and the most of each; it holds as many as it has room for.
        head(60); basin(0, 1, 1); basin(59, 60, 3); leak(1, 3)
        turn() = 60 59
        info(0, 0..5) = 0 1 1 0 1 6
        info(1, 0..5) = 59 60 3 3 0 354
        """);
    s.of("Promise 8", "whether it is OUT (6: 1, 0)", """
        basin(0, 1, 1) * 4
        info(0..3, 6) = 0
        out(3) = 8; info(0..3, 6) = 0 0 0 1
        out(0) = 9; info(0..3, 6) = 1 0 0 1
        """);
    s.of("Promise 8", "BAD", """
        info(0, 0) = BAD
        basin(0, 1, 1)
        info(-1, 0) = BAD; info(1, 0) = BAD; info(4, 0) = BAD; info(LEAST, 0) = BAD; info(MOST, 0) = BAD
        info(0, -1) = BAD; info(0, 7) = BAD; info(0, LEAST) = BAD; info(0, MOST) = BAD
        info(0, 0..6) = 0 1 1 0 0 0 0
        back() = 0
        info(0, 0..6) = BAD
        """);
  }

  private static void chamber() {
    s.of("Promise 9", "SLICES in it (what = 0), LEVEL (1), HEAD (2)", """
        head(60); chamber(0..2) = 0 0 60
        turn(); chamber(0..2) = 60 360 60
        """);
    s.of("Promise 9", "BAD", """
        chamber(-1) = BAD; chamber(3) = BAD; chamber(LEAST) = BAD; chamber(MOST) = BAD
        """);
  }
}
