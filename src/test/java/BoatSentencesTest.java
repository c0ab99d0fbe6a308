/** Boats: each sentence of promises 10 to 15, and of the terms, that names a boundary. */
public final class BoatSentencesTest {
  private static final Sentences s = new Sentences();
  /** As many boats as may come in all but four; none of them waits. */
  private static final String NINETY_SIX_CAME_AND_WENT = """
      boat(0) = 0..15; leave(0..15) = 15..0
      boat(1) = 16..31; leave(16..31) = 15..0
      boat(0) = 32..47; leave(32..47) = 15..0
      boat(1) = 48..63; leave(48..63) = 15..0
      boat(0) = 64..79; leave(64..79) = 15..0
      boat(1) = 80..95; leave(80..95) = 15..0
      """;

  public static void main(String[] args) {
    terms();
    boat();
    leave();
    waits();
    rule();
    serve();
    next();
    s.finish(10, 15);
  }

  private static void terms() {
    s.of("Terms", "BOATS go down (way 0: the CHAMBER must be FULL, a TURN empties it)", """
        boat(0) = 0 1
        turn() = 30
        next(0..1) = 0 1; serve() = 0
        count(2) = 2; ledger(1, 0..1) = 0 0; chamber(0) = 0
        # The chamber is empty now, so that it takes a turn more.
        next(0..1) = 1 2
        """);
    s.of("Terms", "or up (1: EMPTY, a TURN fills it)", """
        boat(1) = 0 1
        next(0..1) = 0 1; serve() = 0
        count(2) = 1; ledger(0, 0..1) = 0 1; chamber(0) = 30
        next(0..1) = 1 2
        """);
    s.of("Terms", "they are numbered as they come, 0 on (100 at most in all)", NINETY_SIX_CAME_AND_WENT + """
        boat(0) = 96 97; boat(1) = 98 99
        boat(0..1) = FULL
        count(7) = 100; count(1) = 4
        # Numbers are not given twice, and none that is served or leaves makes room for another.
        leave(99) = 1; serve() = 96
        boat(0..1) = FULL
        waits(0, 0) = 97; waits(1, 0) = 98
        """);
    s.of("Terms", "and wait, 16 at most of each way", """
        boat(0) = 0..15 FULL
        boat(1) = 16..31 FULL
        boat(0..1) = FULL
        count(1) = 32; count(7) = 32
        waits(0..1, NONE) = 16
        waits(0, 0..15) = 0..15; waits(1, 0..15) = 16..31
        """);
    s.of("Terms", "by RULE 0 (at first) the one that came first", """
        # Whatever side the chamber is at.
        boat(0) = 0; boat(1) = 1
        serve() = 0; count(2) = 2
        boat(0) = 2
        serve() = 1 2; count(2) = 4
        boat(1) = 3; boat(0) = 4
        turn() = 30
        serve() = 3; count(2) = 7
        """);
    s.of("Terms", "by RULE 1 the first of those whose side the CHAMBER is at, if there are any, else the first", """
        rule(1) = 0
        # Empty, with two that go up behind two that go down.
        boat(0) = 0 1; boat(1) = 2 3
        next(0..1) = 2 1; serve() = 2
        # Full now.
        next(0..1) = 0 1; serve() = 0
        serve() = 3; serve() = 1
        count(2) = 4; ledger(0..3, 0) = 2 0 3 1
        # None at its side: the first of the others.
        new
        rule(1); boat(0) = 0 1
        next(0..1) = 0 2; serve() = 0
        ledger(0..1, 0) = NONE 0
        new
        rule(1); turn(); boat(1) = 0 1
        next(0..1) = 0 2; serve() = 0
        ledger(1..2, 0) = NONE 0
        """);
    s.of("Terms", "If the CHAMBER is not at its side, a TURN without a BOAT goes ahead.", """
        head(7); boat(0) = 0
        serve() = 0
        count(2) = 2; total(4) = 2; total(0..1) = 7
        ledger(0, 0..3) = NONE 1 0 7
        ledger(1, 0..3) = 0 0 0 7
        chamber(0) = 0
        # It leaks behind both.
        new
        head(10); basin(0, 4, 1); turn() = 10 6
        out(0); leak(0, 1)
        boat(0) = 0; serve() = 0
        ledger(2..3, 4) = 1; info(0, 4) = 2
        # At its side, none goes ahead.
        new
        boat(1) = 0; serve() = 0; count(2) = 1; chamber(0) = 30
        boat(0) = 1; serve() = 1; count(2) = 2; chamber(0) = 0
        """);
  }

  private static void boat() {
    s.of("Promise 10", "A BOAT comes: its number.", """
        boat(1) = 0; boat(0) = 1; boat(1) = 2
        leave(2) = 1
        boat(0) = 3
        count(7) = 4; count(1) = 3
        """);
    s.of("Promise 10", "BAD", """
        boat(-1) = BAD; boat(2) = BAD; boat(LEAST) = BAD; boat(MOST) = BAD
        count(7) = 0
        boat(1) = 0; boat(0) = 1
        """);
    s.of("Promise 10", "FULL: 16 of its way wait", """
        boat(0) = 0..15 FULL*2
        # The other way has room, and what was refused had no number.
        boat(1) = 16
        leave(15) = 15
        boat(0) = 17 FULL
        # One that is served makes room, too.
        serve() = 0
        boat(0) = 18 FULL
        new
        boat(1) = 0..15 FULL
        boat(0) = 16
        boat(1) = FULL
        """);
    s.of("Promise 10", "or 100 came.", NINETY_SIX_CAME_AND_WENT + """
        boat(0) = 96..99 FULL
        boat(1) = FULL
        leave(96..99) = 3..0
        count(1) = 0
        boat(0..1) = FULL
        count(7) = 100
        """);
    s.of("Promise 10", "BAD; FULL", """
        boat(0) = 0..15; boat(1) = 16..31
        boat(2) = BAD; boat(-1) = BAD
        """);
    s.of("Promise 10", "BAD; FULL", NINETY_SIX_CAME_AND_WENT + """
        boat(0) = 96..99
        boat(2) = BAD; boat(-1) = BAD
        """);
  }

  private static void leave() {
    s.of("Promise 11", "A BOAT that waits goes away: how many of its way wait still.", """
        boat(0) = 0..15; boat(1) = 16
        # From the middle, from the end, from the front; the others stay in order.
        leave(7) = 15; leave(15) = 14; leave(0) = 13
        waits(0, 0..15) = 1 2 3 4 5 6 8 9 10 11 12 13 14 NONE*3
        leave(16) = 0
        waits(0..1, NONE) = 13 0
        count(7) = 17
        """);
    s.of("Promise 11", "BAD: below 0", """
        leave(-1) = BAD; leave(LEAST) = BAD
        boat(0) = 0
        leave(-1) = BAD; leave(LEAST) = BAD
        leave(0) = 0
        """);
    s.of("Promise 11", "NOT: it does not wait.", """
        # Not come yet, and no number that can come.
        leave(0) = NOT; leave(99) = NOT; leave(100) = NOT; leave(MOST) = NOT
        boat(1) = 0
        leave(1) = NOT
        # Went away.
        leave(0) = 0 NOT
        # Was served.
        boat(1) = 1; serve() = 1; leave(1) = NOT
        count(1) = 0
        # Also while others wait, ahead of it and behind it, on both sides.
        boat(0) = 2 3 4; boat(1) = 5 6 7
        leave(3) = 2 NOT; leave(6) = 2 NOT
        leave(0..1) = NOT; leave(8) = NOT
        waits(0, 0..2) = 2 4 NONE; waits(1, 0..2) = 5 7 NONE
        """);
  }

  private static void waits() {
    s.of("Promise 12", "How many wait (i = NONE)", """
        waits(0..1, NONE) = 0
        boat(0) = 0..15; boat(1) = 16
        waits(0..1, NONE) = 16 1
        """);
    s.of("Promise 12", "the i-th of a way (0 to 15) in the order they came; NONE", """
        waits(0..1, 0..15) = NONE
        boat(1) = 0; boat(0) = 1..16
        waits(0, 0) = 1; waits(0, 15) = 16
        waits(1, 0) = 0; waits(1, 1) = NONE; waits(1, 15) = NONE
        leave(1) = 15
        waits(0, 0) = 2; waits(0, 14) = 16; waits(0, 15) = NONE
        # The place of one that left goes to those behind it, not to the next that comes.
        boat(0) = 17; waits(0, 15) = 17
        """);
    s.of("Promise 12", "BAD", """
        boat(0) = 0..15
        waits(0, -2) = BAD; waits(0, 16) = BAD; waits(0, LEAST) = BAD; waits(0, MOST) = BAD
        waits(-1, 0) = BAD; waits(2, 0) = BAD; waits(LEAST, 0) = BAD; waits(MOST, 0) = BAD
        waits(-1, NONE) = BAD; waits(2, NONE) = BAD
        """);
  }

  private static void rule() {
    s.of("Promise 13", "RULE (0, 1): what it was.", """
        rule(0) = 0; rule(1) = 0 1; rule(0) = 1 0
        """);
    s.of("Promise 13", "BAD", """
        rule(-1) = BAD; rule(2) = BAD; rule(LEAST) = BAD; rule(MOST) = BAD
        rule(1) = 0
        rule(-1) = BAD; rule(2) = BAD
        rule(1) = 1
        """);
  }

  private static void serve() {
    s.of("Promise 14", "A BOAT is SERVED: its number.", """
        boat(1) = 0
        serve() = 0
        count(1) = 0; ledger(0, 0) = 0
        """);
    s.of("Promise 14", "NOT: none waits", """
        serve() = NOT
        count(2) = 0; chamber(0) = 0
        boat(1) = 0; serve() = 0 NOT
        boat(1) = 1; leave(1) = 0; serve() = NOT
        count(2) = 1
        """);
    s.of("Promise 14", "FULL: THE LEDGER has no room for what it takes.", """
        # No turn is left.
        head(1); turn() = 1*60
        boat(1) = 0
        serve() = FULL
        waits(1, 0) = 0; count(2) = 60; total(4) = 60; chamber(0) = 0
        wipe() = 60
        serve() = 0
        # One is left, and it takes two: neither is made.
        new
        head(1); turn() = 1*59
        boat(1) = 0
        next(1) = 2
        serve() = FULL
        waits(1, 0) = 0; count(2) = 59; total(4) = 59; chamber(0) = 1
        # One is left, and it takes one.
        new
        head(1); turn() = 1*59
        boat(0) = 0
        serve() = 0
        count(2) = 60; ledger(59, 0) = 0
        # Two are left, and it takes two.
        new
        head(1); turn() = 1*58
        boat(0) = 0
        serve() = 0
        count(2) = 60; ledger(58..59, 0) = NONE 0
        """);
    s.of("Promise 14", "NOT: none waits; FULL", """
        head(1); turn() = 1*60
        serve() = NOT
        """);
  }

  private static void next() {
    s.of("Promise 15", "Which BOAT would be SERVED (what = 0; NONE: none waits)", """
        next(0) = NONE
        boat(0) = 0; next(0) = 0
        leave(0) = 0; next(0) = NONE
        # Whether the ledger has room is not asked here.
        new
        head(1); turn() = 1*60
        boat(0) = 0; next(0..1) = 0 2
        """);
    s.of("Promise 15", "how many TURNS that takes (1; 0: none waits)", """
        next(1) = 0
        boat(0) = 0; next(1) = 2
        turn(); next(1) = 1
        leave(0) = 0; next(1) = 0
        boat(1) = 1; next(1) = 2
        turn(); next(1) = 1
        """);
    s.of("Promise 15", "BAD", """
        next(-1) = BAD; next(2) = BAD; next(LEAST) = BAD; next(MOST) = BAD
        boat(0) = 0
        next(-1) = BAD; next(2) = BAD
        """);
  }
}
