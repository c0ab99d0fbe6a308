/** Sheets, counts and the digest: each sentence of promises 24 to 31, and of the terms, that names a boundary. */
public final class SheetSentencesTest {
  private static final Sentences s = new Sentences();

  public static void main(String[] args) {
    terms();
    findings();
    refusals();
    sheet();
    lose();
    lay();
    get();
    copy();
    copyBeyond();
    write();
    count();
    digest();
    s.finish(24, 31);
  }

  private static void terms() {
    s.of("Terms", "SHEETS 0 .. 3 are LOST (at first)", """
        lose(-1) = BAD; lose(4) = BAD
        lose(0..3) = NULL
        sheet(0..3, 0, 1) = 1
        lose(0..3) = 1
        """);
    s.of("Terms", "or a row of a FORM: 0 bytes, 1 shorts, 2 ints", """
        sheet(0, -1, 1) = BAD; sheet(0, 3, 1) = BAD
        sheet(0, 0, 1); sheet(1, 1, 1); sheet(2, 2, 1)
        lay(0..2, 0, 0, 7) = 1 CAST CAST
        lay(0..2, 1, 0, 7) = CAST 1 CAST
        lay(0..2, 2, 0, 7) = CAST CAST 1
        # A new row may have another form.
        sheet(0, 2, 1); lay(0, 0, 0, 7) = CAST; lay(0, 2, 0, 65536) = 1; get(0, 2, 0) = 65536
        """);
    s.of("Terms", "of 0 to 60 items (0 at first)", """
        sheet(0, 0, 0) = 0; get(0, 0, 0) = LEAST/INDEX
        sheet(1, 1, 60) = 60; get(1, 1, 0..59) = 0; get(1, 1, 60) = LEAST/INDEX
        sheet(2, 2, 61) = BAD; lose(2) = NULL
        new
        # Also where another row stood.
        sheet(3, 2, 3); lay(3, 2, 0..2, 9)
        sheet(3, 2, 4) = 4; get(3, 2, 0..3) = 0
        lay(3, 2, 0..3, 9); lose(3) = 4
        sheet(3, 2, 4) = 4; get(3, 2, 0..3) = 0
        """);
  }

  private static void findings() {
    s.of("Terms", "FINDINGS (answers -10 less the number; they change nothing but count() 8)", """
        count(8) = 0
        sheet(0, 0, 1); sheet(1, 1, 1); lay(0, 0, 0, 5); lay(1, 1, 0, 6)
        lose(3) = -11; count(8) = 1
        lay(0, 0, 1, 9) = -12; count(8) = 2
        lay(0, 1, 0, 9) = -13; count(8) = 3
        copy(0, 0, 1, 0, 1) = -14; count(8) = 4
        sheet(0, 0, -1) = -15; count(8) = 5
        get(0, 0, 0) = 5; get(1, 1, 0) = 6
        lose(3) = -11; count(8) = 1
        """);
    s.of("Terms", "1 NULL: the SHEET is LOST", """
        lose(0) = NULL; read(1) = NULL; write(2) = NULL; lay(3, 0, 0, 0) = NULL; get(0, 0, 0) = LEAST/NULL
        copy(0, 0, 1, 0, 0) = NULL
        """);
    s.of("Terms", "2 INDEX: there is no such item", """
        sheet(0, 0, 2); sheet(1, 0, 0)
        lay(0, 0, 2, 1) = INDEX; lay(0, 0, -1, 1) = INDEX; lay(1, 0, 0, 1) = INDEX
        """);
    s.of("Terms", "3 CAST: it has another FORM", """
        sheet(0, 1, 2)
        lay(0, 0, 0, 1) = CAST; lay(0, 2, 0, 1) = CAST; lay(0, 1, 0, 1) = 1
        """);
    s.of("Terms", "4 STORE: unlike FORMS", """
        sheet(0, 0, 2); sheet(1, 1, 2); sheet(2, 2, 2); sheet(3, 2, 2)
        copy(0, 0, 1, 0, 2) = STORE; copy(1, 0, 0, 0, 2) = STORE; copy(1, 0, 2, 0, 2) = STORE
        copy(2, 0, 0, 0, 2) = STORE; copy(2, 0, 3, 0, 2) = 1
        """);
    s.of("Terms", "5 SIZE: below 0", """
        sheet(0, 0, -1) = SIZE; sheet(0, 0, LEAST) = SIZE; sheet(0, 0, 0) = 0
        """);
  }

  private static void refusals() {
    s.of("Terms", "Refusals, the first that fits, in the order told at each act", """
        # What is lost comes ahead of what has another form or no such item, and behind what is bad.
        lay(4, 3, -1, 0) = BAD; lay(0, 3, -1, 0) = BAD; lay(0, 0, -1, 0) = NULL
        sheet(0, 0, 1)
        lay(0, 1, -1, 0) = CAST; lay(0, 0, -1, 0) = INDEX
        copy(4, -1, 1, -1, -1) = BAD; copy(0, -1, 1, -1, -1) = NULL; copy(1, -1, 0, -1, -1) = NULL
        sheet(1, 1, 1)
        copy(0, -1, 1, -1, -1) = STORE
        sheet(1, 0, 1)
        copy(0, -1, 1, -1, -1) = INDEX
        sheet(4, 0, -1) = BAD; sheet(0, 3, -1) = BAD; sheet(0, 0, -1) = SIZE
        """);
    s.of("Terms", "BAD -2 (a number not as told, no such thing), NULL, NOT -3 (as told), FULL -4, other FINDINGS.", """
        head(0) = -2; info(0, 0) = -2; leave(-1) = -2
        back() = -3; serve() = -3; leave(0) = -3
        turn() = 30*60 -4
        basin(0, 1, 1) = 1..4 -4
        lose(0) = -11; sheet(0, 0, -1) = -15
        """);
    s.of("Terms", "They change nothing (FINDINGS but count() 8).", """
        # Of each call one that is refused; what shows is held against an object without them.
        head(10); basin(0, 5, 1); basin(59, 1, 1); leak(0, 1); out(1); rule(1)
        boat(0) = 0; boat(1) = 1
        turn() = 10; sheet(0, 0, 3); sheet(1, 1, 3); lay(0, 0, 0..2, 3); lay(1, 1, 0..2, 4)
        head(11) = NOT; head(0) = BAD; basin(60, 1, 1) = BAD; out(2) = BAD; leak(0, 4) = BAD
        read(4) = BAD; read(2) = NULL; boat(2) = BAD; leave(-1) = BAD; leave(2) = NOT; rule(2) = BAD
        sheet(0, 0, 61) = BAD; sheet(0, 1, -1) = SIZE; lose(2) = NULL; lose(4) = BAD
        lay(0, 1, 0, 9) = CAST; lay(0, 0, 3, 9) = INDEX; lay(2, 0, 0, 9) = NULL; lay(0, 3, 0, 9) = BAD
        copy(0, 0, 1, 0, 3) = STORE; copy(0, 0, 0, 1, 3) = INDEX; copy(0, 0, 2, 0, 0) = NULL
        write(2) = NULL; write(4) = BAD
        count(8) = 1
        get(0, 0, 0..2) = 3; get(1, 1, 0..2) = 4
        turn() = 5; back() = 1 NOT
        """);
  }

  private static void sheet() {
    s.of("Promise 24", "A SHEET is a new row of a FORM with n items: n.", """
        sheet(0, 0, 0) = 0; sheet(1, 1, 1) = 1; sheet(2, 2, 60) = 60
        # The others stay.
        lay(1, 1, 0, 5); sheet(0, 0, 9) = 9; get(1, 1, 0) = 5
        lose(0..3) = 9 1 60 NULL
        """);
    s.of("Promise 24", "BAD: SHEET, FORM, above 60", """
        sheet(-1, 0, 1) = BAD; sheet(4, 0, 1) = BAD; sheet(LEAST, 0, 1) = BAD; sheet(MOST, 0, 1) = BAD
        sheet(0, -1, 1) = BAD; sheet(0, 3, 1) = BAD; sheet(0, LEAST, 1) = BAD; sheet(0, MOST, 1) = BAD
        sheet(0, 0, 61) = BAD; sheet(0, 1, 61) = BAD; sheet(0, 2, MOST) = BAD
        lose(0..3) = NULL
        # A row that is there stays.
        sheet(0, 0, 60); lay(0, 0, 59, 7); sheet(0, 0, 61) = BAD; get(0, 0, 59) = 7
        """);
    s.of("Promise 24", "SIZE", """
        sheet(0, 0, -1) = SIZE; sheet(0, 2, LEAST) = SIZE
        lose(0) = NULL
        # A row that is there stays.
        sheet(1, 1, 2); lay(1, 1, 1, 7); sheet(1, 0, -1) = SIZE; get(1, 1, 1) = 7
        # What is bad comes ahead of it.
        sheet(4, 0, -1) = BAD; sheet(-1, 0, -1) = BAD; sheet(0, 3, -1) = BAD; sheet(0, -1, -1) = BAD
        """);
  }

  private static void lose() {
    s.of("Promise 25", "It is LOST: how many items it had.", """
        sheet(0, 0, 0); sheet(3, 2, 60)
        lose(0) = 0 NULL; lose(3) = 60 NULL
        sheet(0, 1, 5); lose(0) = 5 NULL
        """);
    s.of("Promise 25", "BAD", """
        lose(-1) = BAD; lose(4) = BAD; lose(LEAST) = BAD; lose(MOST) = BAD
        """);
    s.of("Promise 25", "NULL", """
        lose(0..3) = NULL
        sheet(2, 0, 1); lose(2) = 1 NULL*2
        """);
  }

  private static void lay() {
    s.of("Promise 26", "Item i, treated as of a FORM", """
        # It is the form that the row has, not one that would do for the number.
        sheet(0, 2, 60)
        lay(0, 0, 0, 1) = CAST; lay(0, 1, 0, 1) = CAST
        lay(0, 2, 0, 1) = 1; lay(0, 2, 59, 2) = 1
        get(0, 2, 0) = 1; get(0, 2, 1) = 0; get(0, 2, 58..59) = 0 2
        """);
    s.of("Promise 26", "becomes v (the lowest bits that it has, with its sign): 1.", """
        sheet(0, 0, 1)
        lay(0, 0, 0, 127) = 1; get(0, 0, 0) = 127
        lay(0, 0, 0, 128) = 1; get(0, 0, 0) = -128
        lay(0, 0, 0, 255) = 1; get(0, 0, 0) = -1
        lay(0, 0, 0, 256) = 1; get(0, 0, 0) = 0
        lay(0, 0, 0, -128) = 1; get(0, 0, 0) = -128
        lay(0, 0, 0, -129) = 1; get(0, 0, 0) = 127
        lay(0, 0, 0, MOST) = 1; get(0, 0, 0) = -1
        lay(0, 0, 0, LEAST) = 1; get(0, 0, 0) = 0
        """);
    s.of("Promise 26", "becomes v (the lowest bits that it has, with its sign): 1.", """
        sheet(0, 1, 1)
        lay(0, 1, 0, 32767) = 1; get(0, 1, 0) = 32767
        lay(0, 1, 0, 32768) = 1; get(0, 1, 0) = -32768
        lay(0, 1, 0, 65535) = 1; get(0, 1, 0) = -1
        lay(0, 1, 0, 65536) = 1; get(0, 1, 0) = 0
        lay(0, 1, 0, -32768) = 1; get(0, 1, 0) = -32768
        lay(0, 1, 0, -32769) = 1; get(0, 1, 0) = 32767
        lay(0, 1, 0, MOST) = 1; get(0, 1, 0) = -1
        lay(0, 1, 0, LEAST) = 1; get(0, 1, 0) = 0
        """);
    s.of("Promise 26", "becomes v (the lowest bits that it has, with its sign): 1.", """
        sheet(0, 2, 2)
        lay(0, 2, 0, MOST) = 1; get(0, 2, 0) = MOST
        lay(0, 2, 0, LEAST) = 1; get(0, 2, 0) = LEAST
        lay(0, 2, 0, 65536) = 1; get(0, 2, 0) = 65536
        lay(0, 2, 0, -1) = 1; get(0, 2, 0..1) = -1 0
        """);
    s.of("Promise 26", "BAD", """
        sheet(0, 0, 1)
        lay(-1, 0, 0, 1) = BAD; lay(4, 0, 0, 1) = BAD; lay(LEAST, 0, 0, 1) = BAD; lay(MOST, 0, 0, 1) = BAD
        lay(0, -1, 0, 1) = BAD; lay(0, 3, 0, 1) = BAD; lay(0, LEAST, 0, 1) = BAD; lay(0, MOST, 0, 1) = BAD
        # Also of a sheet that is lost.
        lay(1, -1, 0, 1) = BAD; lay(1, 3, 0, 1) = BAD
        """);
    s.of("Promise 26", "NULL", """
        lay(0..3, 0..2, 0, 1) = NULL
        # Ahead of what has no such item.
        lay(0, 0, -1, 1) = NULL; lay(0, 0, 60, 1) = NULL
        sheet(1, 0, 1); lose(1); lay(1, 0, 0, 1) = NULL
        """);
    s.of("Promise 26", "CAST", """
        sheet(0, 0, 1); sheet(1, 1, 1); sheet(2, 2, 1)
        lay(0, 1..2, 0, 1) = CAST; lay(1, 0, 0, 1) = CAST; lay(1, 2, 0, 1) = CAST; lay(2, 0..1, 0, 1) = CAST
        # Ahead of what has no such item, also where there are none at all.
        lay(0, 1, -1, 1) = CAST; lay(0, 1, 1, 1) = CAST
        sheet(3, 0, 0); lay(3, 1, 0, 1) = CAST
        """);
    s.of("Promise 26", "INDEX", """
        sheet(0, 0, 0); sheet(1, 1, 1); sheet(2, 2, 60)
        lay(0, 0, 0, 1) = INDEX; lay(0, 0, -1, 1) = INDEX
        lay(1, 1, 0, 1) = 1; lay(1, 1, 1, 1) = INDEX; lay(1, 1, -1, 1) = INDEX
        lay(2, 2, 59, 1) = 1; lay(2, 2, 60, 1) = INDEX; lay(2, 2, LEAST, 1) = INDEX; lay(2, 2, MOST, 1) = INDEX
        # An item that an earlier and longer row had is none of this one.
        sheet(2, 2, 59); lay(2, 2, 59, 1) = INDEX; lay(2, 2, 58, 1) = 1
        """);
  }

  private static void get() {
    s.of("Promise 27", "Item i of it.", """
        sheet(3, 2, 60); lay(3, 2, 0, 4); lay(3, 2, 59, 6)
        get(3, 2, 0) = 4; get(3, 2, 59) = 6; get(3, 2, 58) = 0
        """);
    s.of("Promise 27", "BAD: the least int", """
        sheet(0, 0, 1)
        get(-1, 0, 0) = LEAST/BAD; get(4, 0, 0) = LEAST/BAD
        get(LEAST, 0, 0) = LEAST/BAD; get(MOST, 0, 0) = LEAST/BAD
        get(0, -1, 0) = LEAST/BAD; get(0, 3, 0) = LEAST/BAD
        get(0, LEAST, 0) = LEAST/BAD; get(0, MOST, 0) = LEAST/BAD
        # Also of a sheet that is lost; it is no finding.
        get(1, 3, 0) = LEAST/BAD
        count(8) = 0
        """);
    s.of("Promise 27", "so are NULL, CAST, INDEX (count() 8 tells)", """
        get(0, 0, 0) = LEAST/NULL; get(0, 0, -1) = LEAST/NULL; count(8) = 1
        sheet(0, 1, 2)
        get(0, 0, 0) = LEAST/CAST; get(0, 2, 0) = LEAST/CAST; get(0, 0, 2) = LEAST/CAST; count(8) = 3
        get(0, 1, 2) = LEAST/INDEX; count(8) = 2
        get(0, 1, -1) = LEAST/INDEX; get(0, 1, LEAST) = LEAST/INDEX; get(0, 1, MOST) = LEAST/INDEX
        # What is bad is told of nowhere, and what is right neither.
        get(0, 3, 0) = LEAST/BAD; get(0, 1, 0..1) = 0; count(8) = 2
        # The least int itself may be an item.
        sheet(1, 2, 1); lay(1, 2, 0, LEAST); get(1, 2, 0) = LEAST; count(8) = 2
        # No item behind the last one, though an earlier row had it.
        sheet(2, 0, 2); lay(2, 0, 0..1, 8); sheet(2, 0, 1); get(2, 0, 1) = LEAST/INDEX
        """);
  }

  private static void copy() {
    s.of("Promise 28", "n items of SHEET s, from i on, come to SHEET t (perhaps s, as they were), from j on: 1.", """
        sheet(0, 0, 5); lay(0, 0, 0, 1); lay(0, 0, 1, 2); lay(0, 0, 2, 3); lay(0, 0, 3, 4); lay(0, 0, 4, 5)
        sheet(1, 0, 3)
        copy(0, 2, 1, 0, 3) = 1; get(1, 0, 0..2) = 3 4 5; get(0, 0, 0..4) = 1..5
        copy(0, 0, 1, 2, 1) = 1; get(1, 0, 0..2) = 3 4 1
        # One span over the other, both ways.
        copy(0, 0, 0, 1, 4) = 1; get(0, 0, 0..4) = 1 1 2 3 4
        copy(0, 2, 0, 0, 3) = 1; get(0, 0, 0..4) = 2 3 4 3 4
        copy(0, 0, 0, 0, 5) = 1; get(0, 0, 0..4) = 2 3 4 3 4
        new
        # All that there can be.
        sheet(0, 2, 60); sheet(1, 2, 60); lay(0, 2, 0, LEAST); lay(0, 2, 59, MOST)
        copy(0, 0, 1, 0, 60) = 1; get(1, 2, 0) = LEAST; get(1, 2, 59) = MOST
        """);
    s.of("Promise 28", "BAD: the SHEETS", """
        sheet(0, 0, 1)
        copy(-1, 0, 0, 0, 0) = BAD; copy(4, 0, 0, 0, 0) = BAD; copy(LEAST, 0, 0, 0, 0) = BAD
        copy(MOST, 0, 0, 0, 0) = BAD
        copy(0, 0, -1, 0, 0) = BAD; copy(0, 0, 4, 0, 0) = BAD; copy(0, 0, LEAST, 0, 0) = BAD
        copy(0, 0, MOST, 0, 0) = BAD
        # Ahead of all else: one is lost, the other is bad.
        copy(1, 0, 4, 0, 0) = BAD; copy(4, 0, 1, 0, 0) = BAD; copy(0, -1, 4, 0, 0) = BAD
        """);
    s.of("Promise 28", "NULL: s, t", """
        sheet(0, 0, 2)
        copy(1, 0, 0, 0, 1) = NULL; copy(0, 0, 1, 0, 1) = NULL; copy(1, 0, 1, 0, 1) = NULL; copy(1, 0, 2, 0, 1) = NULL
        # Also when none would come, and ahead of what has no such item.
        copy(1, 0, 0, 0, 0) = NULL; copy(0, 0, 1, 0, 0) = NULL
        copy(1, -1, 0, -1, -1) = NULL; copy(0, -1, 1, -1, -1) = NULL; copy(0, 9, 1, 9, 9) = NULL
        # Whatever form the other has, and whatever form the lost one had.
        sheet(1, 1, 2); sheet(2, 2, 2)
        copy(1, 0, 3, 0, 1) = NULL; copy(3, 0, 2, 0, 1) = NULL
        lose(1); lose(2)
        copy(0, 0, 1, 0, 1) = NULL; copy(2, 0, 0, 0, 1) = NULL; copy(1, 0, 2, 0, 0) = NULL
        """);
    s.of("Promise 28", "STORE", """
        sheet(0, 0, 2); sheet(1, 1, 2); sheet(2, 2, 2)
        copy(0, 0, 1..2, 0, 1) = STORE; copy(1, 0, 0, 0, 1) = STORE; copy(1, 0, 2, 0, 1) = STORE
        copy(2, 0, 0..1, 0, 1) = STORE
        # Also when none would come, and ahead of what has no such item.
        copy(0, 0, 1, 0, 0) = STORE; copy(0, -1, 1, -1, -1) = STORE; copy(0, 9, 1, 9, 9) = STORE
        """);
  }

  private static void copyBeyond() {
    s.of("Promise 28", "INDEX: below 0", """
        sheet(0, 0, 5); sheet(1, 0, 3)
        copy(0, -1, 1, 0, 1) = INDEX; copy(0, 0, 1, -1, 1) = INDEX; copy(0, 0, 1, 0, -1) = INDEX
        copy(0, -1, 1, 0, 0) = INDEX; copy(0, 0, 1, -1, 0) = INDEX
        copy(0, LEAST, 1, 0, 1) = INDEX; copy(0, 0, 1, LEAST, 1) = INDEX; copy(0, 0, 1, 0, LEAST) = INDEX
        copy(0, LEAST, 1, LEAST, LEAST) = INDEX
        # The sums would be right.
        copy(0, -1, 1, -1, 2) = INDEX; copy(0, 5, 1, 3, -1) = INDEX
        """);
    s.of("Promise 28", "not so many", """
        sheet(0, 0, 5); sheet(1, 0, 3); lay(0, 0, 0..4, 9)
        # Of the first.
        copy(1, 0, 0, 0, 4) = INDEX; copy(1, 1, 0, 0, 3) = INDEX; copy(1, 3, 0, 0, 1) = INDEX
        # Of the second: none comes, not even those that there are places for.
        copy(0, 0, 1, 0, 4) = INDEX; copy(0, 0, 1, 1, 3) = INDEX; copy(0, 0, 1, 3, 1) = INDEX
        get(1, 0, 0..2) = 0
        copy(0, 0, 0, 1, 5) = INDEX
        # The sums would wrap.
        copy(0, MOST, 1, 0, 1) = INDEX; copy(0, 0, 1, MOST, 1) = INDEX; copy(0, 1, 1, 1, MOST) = INDEX
        copy(0, MOST, 1, MOST, MOST) = INDEX
        # Just so many.
        copy(0, 2, 1, 0, 3) = 1; copy(0, 4, 1, 2, 1) = 1
        """);
    s.of("Promise 28", "(with n 0, too, if i or j is above how many there are)", """
        sheet(0, 0, 5); sheet(1, 0, 3); sheet(2, 0, 0)
        copy(0, 6, 1, 0, 0) = INDEX; copy(0, 0, 1, 4, 0) = INDEX; copy(0, MOST, 1, 0, 0) = INDEX
        copy(0, 0, 1, MOST, 0) = INDEX
        copy(2, 1, 0, 0, 0) = INDEX; copy(0, 0, 2, 1, 0) = INDEX
        # As many as there are is not above.
        copy(0, 5, 1, 3, 0) = 1; copy(0, 0, 1, 0, 0) = 1; copy(2, 0, 2, 0, 0) = 1; copy(0, 5, 2, 0, 0) = 1
        copy(2, 0, 1, 3, 0) = 1
        """);
  }

  private static void write() {
    s.of("Promise 29", "(of each the lowest bits that an item has, with its sign)", """
        head(4); basin(0, 1, 1); basin(1, 1, 1); turn() = 4
        sheet(0, 0, 4); sheet(1, 1, 4); sheet(2, 2, 4)
        write(0..2) = 4
        get(0, 0, 0..3) = 1 0 NONE NONE
        get(1, 1, 0..3) = 1 0 NONE NONE
        get(2, 2, 0..3) = 1 0 NONE NONE
        """);
    s.of("Promise 29", "from item 0 on, as many as there are items, and SLICES: how many.", """
        head(4)
        sheet(0, 0, 6); lay(0, 0, 0..5, 9); write(0) = 4; get(0, 0, 0..5) = NONE*4 9 9
        sheet(0, 0, 5); lay(0, 0, 0..4, 9); write(0) = 4; get(0, 0, 0..4) = NONE*4 9
        sheet(0, 0, 4); write(0) = 4; get(0, 0, 0..3) = NONE
        sheet(0, 0, 3); write(0) = 3; get(0, 0, 0..2) = NONE
        sheet(0, 0, 1); write(0) = 1; get(0, 0, 0) = NONE
        sheet(0, 0, 0); write(0) = 0
        new
        head(60)
        sheet(0, 0, 60); write(0) = 60; get(0, 0, 0..59) = NONE
        new
        head(60)
        sheet(0, 0, 59); write(0) = 59
        sheet(0, 0, 60); write(0) = 60
        new
        head(1)
        sheet(0, 2, 60); write(0) = 1; get(0, 2, 0..59) = NONE 0*59
        """);
    s.of("Promise 29", "STEPS come to a SHEET", """
        # From a basin, as the chamber is empty; what was tried behind it does not matter.
        basin(10, 10, 1); turn() = 30 20
        head(12); sheet(3, 1, 60)
        ahead(3) = 13; step(11) = NONE
        write(3) = 12; get(3, 1, 0..12) = 0*10 NONE*2 0
        """);
    s.of("Promise 29", "BAD", """
        write(-1) = BAD; write(4) = BAD; write(LEAST) = BAD; write(MOST) = BAD
        """);
    s.of("Promise 29", "NULL", """
        write(0..3) = NULL
        sheet(1, 0, 3); lose(1); write(1) = NULL
        """);
  }

  private static void count() {
    s.of("Promise 30", "0 BASINS, 1 BOATS that wait, 2 TURNS in THE LEDGER, 3 SLICES in the CHAMBER, 4 in all BASINS,"
        + " 5 DRAWN ever, 6 LOST ever, 7 BOATS that came", """
        head(10); basin(5, 2, 1); basin(0, 3, 1)
        boat(0) = 0; boat(1) = 1 2
        serve() = 0; turn() = 7
        # 10 drawn; 5 kept, 5 lost; 3 come back, 7 drawn.
        count(0..8) = 2 2 3 10 2 17 5 3 0
        wipe(); count(0..8) = 2 2 0 10 2 17 5 3 0
        """);
    s.of("Promise 30", "8 the number of the latest FINDING (0 before any)", """
        count(8) = 0
        # What is bad, not so or full is no finding.
        head(0) = BAD; back() = NOT; basin(0, 1, 1) = 1..4 FULL
        count(8) = 0
        sheet(0, 0, 1)
        lay(0, 0, 1, 1) = INDEX; count(8) = 2
        lose(1) = NULL; count(8) = 1
        # What goes well does not take it away.
        lay(0, 0, 0, 1) = 1; lose(0) = 1; count(8) = 1
        head(0) = BAD; count(8) = 1
        """);
    s.of("Promise 30", "BAD", """
        count(-1) = BAD; count(9) = BAD; count(LEAST) = BAD; count(MOST) = BAD
        """);
  }

  /** The numbers come from another telling of the document, in a language whose integers do not wrap. */
  private static void digest() {
    s.of("Promise 31", "as longs that wrap", """
        digest() = 9097002441366228739
        # Neither sheets nor findings are in it.
        sheet(0, 0, 9); lose(1) = NULL
        digest() = 9097002441366228739
        """);
    s.of("Promise 31", "(of each thing all that is told of it, then of the next one)", """
        head(60); basin(20, 1, 1); basin(15, 2, 2); basin(10, 3, 3); basin(5, 4, 1); leak(1, 1); out(3)
        turn() = 60 54
        boat(0) = 0..4; boat(1) = 5
        digest() = 6090908592239023567
        rule(1); turn() = 55
        digest() = 3337597668482888172
        wipe() = 3
        digest() = 5232767362057231922
        """);
  }
}
