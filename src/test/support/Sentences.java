import java.util.ArrayList;
import java.util.HashSet;
import java.util.List;
import java.util.Map;
import java.util.Set;
import java.util.regex.Matcher;
import java.util.regex.Pattern;

/**
 * Sentences of the document, each with runs of calls of its own, a call a line or behind a semicolon:
 *
 * <pre>
 * head(7)                     an act that is not refused
 * turn() * 5                  five of them
 * head(61) = BAD              a call with the answer that is due
 * boat(0) = 0..15 FULL*2      as many calls as there are answers
 * info(0, 0..2) = 5 9 1       a call for each number of a range
 * get(0, 0, 9) = LEAST/INDEX  the least int, for what was found
 * new                         another run, on a new object
 * # why
 * </pre>
 *
 * Behind each run the object is held against one on which only those acts were made that were not refused:
 * what is refused, and what only asks, changes nothing but count() 8.
 */
final class Sentences {
  private static final int MOST_CALLS = 512;
  private static final Pattern ENTRY = Pattern.compile("(\\w+)\\(([^)]*)\\)\\s*(?:=\\s*(.+)|\\*\\s*(\\d+))?");
  private static final Map<String, Integer> NAMES = Map.ofEntries(
      Map.entry("NONE", -1), Map.entry("LEAST", Integer.MIN_VALUE), Map.entry("MOST", Integer.MAX_VALUE),
      Map.entry("BAD", -2), Map.entry("NOT", -3), Map.entry("FULL", -4),
      Map.entry("NULL", -11), Map.entry("INDEX", -12), Map.entry("CAST", -13), Map.entry("STORE", -14),
      Map.entry("SIZE", -15));
  private static final Set<String> REFUSALS =
      Set.of("BAD", "NOT", "FULL", "NULL", "INDEX", "CAST", "STORE", "SIZE");

  private final Check check = new Check();
  private final Document document = new Document();
  private final Set<String> told = new HashSet<>();
  private final Set<String> refused = new HashSet<>();
  private String part = "";

  // The run that is under way.
  private ThriftLock lock;
  private int calls;
  private int latestFinding;
  private final List<Call> all = new ArrayList<>();
  private final List<Call> acts = new ArrayList<>();

  /** A sentence of a part of the document, and runs of calls that only go as told if it holds. */
  void of(String itsPart, String sentence, String runs) {
    take(itsPart, sentence, runs);
    end();
  }

  /** The same for one run so long that it leaves no calls to hold the object against another one with. */
  void ofLongRun(String itsPart, String sentence, String run) {
    take(itsPart, sentence, run);
    seeLength();
  }

  private void take(String itsPart, String sentence, String runs) {
    part = itsPart;
    told.add(part);
    check.on(part + ", \"" + sentence + "\"");
    check.due("the document says so", document.says(part, sentence) ? 1 : 0, 1);
    begin();
    for (String line : runs.split("\n")) {
      if (line.trim().startsWith("#")) {
        continue;
      }
      for (String entry : line.split(";")) {
        take(entry.trim());
      }
    }
  }

  /** Each promise from first to last has a sentence here, and each refusal that it names was due once. */
  void finish(int first, int last) {
    for (int n = first; n <= last; n++) {
      String promise = "Promise " + n;
      check.on(promise);
      check.due("it has a sentence", told.contains(promise) ? 1 : 0, 1);
      for (String name : document.refusalsOf(promise)) {
        String one = promise + document.callOf(promise) + name;
        check.due(name + " of " + document.callOf(promise) + " has a call", refused.contains(one) ? 1 : 0, 1);
      }
    }
    check.finish();
  }

  private void take(String entry) {
    if (entry.isEmpty()) {
      return;
    }
    if (entry.equals("new")) {
      end();
      begin();
      return;
    }
    Matcher m = ENTRY.matcher(entry);
    if (!m.matches()) {
      throw new IllegalStateException("not a call: " + entry);
    }
    List<Call> made = callsOf(m.group(1), m.group(2).trim());
    if (m.group(3) == null) {
      actNotRefused(made, m.group(4) == null ? 1 : Integer.parseInt(m.group(4)));
    } else {
      dueOfEach(made, answersOf(m.group(3)), entry);
    }
  }

  // ---- what an entry says

  private static int number(String word) {
    return NAMES.containsKey(word) ? NAMES.get(word) : Integer.parseInt(word);
  }

  private static int[] range(String word) {
    int dots = word.indexOf("..");
    int from = number(dots < 0 ? word : word.substring(0, dots));
    int to = number(dots < 0 ? word : word.substring(dots + 2));
    int[] numbers = new int[Math.abs(to - from) + 1];
    for (int k = 0; k < numbers.length; k++) {
      numbers[k] = from < to ? from + k : from - k;
    }
    return numbers;
  }

  private static List<Call> callsOf(String name, String given) {
    List<int[]> rows = new ArrayList<>();
    rows.add(new int[0]);
    for (String word : given.isEmpty() ? new String[0] : given.split("\\s*,\\s*")) {
      List<int[]> longer = new ArrayList<>();
      for (int[] row : rows) {
        for (int v : range(word)) {
          int[] more = java.util.Arrays.copyOf(row, row.length + 1);
          more[row.length] = v;
          longer.add(more);
        }
      }
      rows = longer;
    }
    return rows.stream().map(row -> new Call(name, row)).toList();
  }

  private static List<String> answersOf(String text) {
    List<String> answers = new ArrayList<>();
    for (String word : text.trim().split("\\s+")) {
      int star = word.indexOf('*');
      int times = star < 0 ? 1 : Integer.parseInt(word.substring(star + 1));
      String one = star < 0 ? word : word.substring(0, star);
      for (int k = 0; k < times; k++) {
        if (one.contains("..")) {
          for (int v : range(one)) answers.add(Integer.toString(v));
        } else {
          answers.add(one);
        }
      }
    }
    return answers;
  }

  // ---- a run

  private void begin() {
    lock = new ThriftLock();
    calls = 0;
    latestFinding = 0;
    all.clear();
    acts.clear();
  }

  private void actNotRefused(List<Call> made, int times) {
    for (int k = 0; k < times; k++) {
      for (Call call : made) {
        long got = call.on(lock);
        check.due(call + " is not refused", got < -1 ? got : 0, 0);
        note(call, false);
      }
    }
  }

  private void dueOfEach(List<Call> made, List<String> answers, String entry) {
    int times = Math.max(made.size(), answers.size());
    if (made.size() > 1 && answers.size() > 1 && made.size() != answers.size()) {
      throw new IllegalStateException(made.size() + " calls and " + answers.size() + " answers: " + entry);
    }
    for (int k = 0; k < times; k++) {
      due(made.get(made.size() == 1 ? 0 : k), answers.get(answers.size() == 1 ? 0 : k));
    }
  }

  private void due(Call call, String answer) {
    boolean least = answer.startsWith("LEAST/");
    String refusal = least ? answer.substring(6) : answer;
    long want = least ? Integer.MIN_VALUE
        : call.name().equals("digest") ? Long.parseLong(answer) : number(answer);
    check.due(call.toString(), call.on(lock), want);
    boolean isRefused = REFUSALS.contains(refusal);
    note(call, isRefused);
    if (isRefused) {
      refused.add(part + call.name() + refusal);
      seeFinding(call, number(refusal));
    }
  }

  private void seeFinding(Call call, int refusal) {
    if (refusal <= -11) {
      latestFinding = -10 - refusal;
    }
    check.due("count(8) behind " + call, lock.count(8), latestFinding);
    calls++;
  }

  private void note(Call call, boolean isRefused) {
    calls++;
    all.add(call);
    if (!isRefused && !call.onlyAsks()) {
      acts.add(call);
    }
  }

  private void seeLength() {
    check.due("at most " + MOST_CALLS + " calls, not " + calls, calls <= MOST_CALLS ? 1 : 0, 1);
  }

  private void end() {
    seeLength();
    List<Long> seen = allThatShows(all);
    List<Long> want = allThatShows(acts);
    for (int k = 0; k < Math.max(seen.size(), want.size()); k++) {
      check.due("behind the run, number " + k + " of what shows",
          k < seen.size() ? seen.get(k) : Long.MIN_VALUE, k < want.size() ? want.get(k) : Long.MAX_VALUE);
    }
  }

  // ---- what an object shows

  private static ThriftLock objectBehind(List<Call> run) {
    ThriftLock x = new ThriftLock();
    for (Call call : run) {
      call.on(x);
    }
    return x;
  }

  /** All but count() 8; on several objects, as some of it is only told by acts. */
  private List<Long> allThatShows(List<Call> run) {
    List<Long> seen = new ArrayList<>();
    ThriftLock x = objectBehind(run);
    ask(x, seen, run, callsOf("waits", "0..1, -1..15"));
    ask(x, seen, run, List.of(new Call("rule", 0), new Call("digest")));
    List<Long> sizes = new ArrayList<>();
    ask(objectBehind(run), sizes, run, callsOf("lose", "0..3"));
    seen.addAll(sizes);
    for (int form = 0; form < 3; form++) {
      ask(objectBehind(run), seen, run, itemsOfAll(sizes, form));
    }
    return seen;
  }

  /** Item behind the last one tells the form, even of a row without items: it is INDEX or CAST. */
  private static List<Call> itemsOfAll(List<Long> sizes, int form) {
    List<Call> asked = new ArrayList<>();
    for (int s = 0; s < sizes.size(); s++) {
      int size = (int) Math.max(0, sizes.get(s));
      for (int i = 0; i < size; i++) {
        asked.add(new Call("get", s, form, i));
      }
      asked.add(new Call("lay", s, form, size, 0));
    }
    return asked;
  }

  private void ask(ThriftLock x, List<Long> seen, List<Call> run, List<Call> asked) {
    check.due("a run that leaves calls to ask with", run.size() + asked.size() <= MOST_CALLS ? 1 : 0, 1);
    for (Call call : asked) {
      seen.add(call.on(x));
    }
  }
}
