import java.util.Random;

/** Many runs of calls drawn by lot, each answer held against that of the plain model. */
public final class FuzzTest {
  private static final String[] ODD = {"person", "fits", "likes", ":", ";", "(", ")", "[", "]", "not", "and", "or", "1000", "7",
      "mark", "shy", "odds", "engaged", "society", "many", "who", "whom", "theirs", "cross", "ink", ",", "A", "\n", "\t", " ", "=", "<", ">", "\u00e9", "12", "\u0000"};
  private final Random lot;
  private final RingSign x = new RingSign();
  private final Model m = new Model();
  private final StringBuilder told = new StringBuilder();
  private final int run;
  private int calls;

  private FuzzTest(int run) { this.run = run; lot = new Random(run * 7919L + 13); }

  public static void main(String[] args) {
    int runs = args.length > 0 ? Integer.parseInt(args[0]) : 700;
    for (int run = 0; run < runs; run++) new FuzzTest(run).go();
    Check.end();
  }

  private void due(String call, long got, long want) {
    calls++;
    told.append(call).append(" -> ").append(got).append('\n');
    Check.due("run " + run + " " + call, got, want);
    if (got != want && System.getenv("FUZZ_TOLD") != null) { System.out.println(told); System.exit(1); }
  }

  private void go() {
    int kind = run % 4;
    // A text is up to 48 calls, and nothing is promised of an object after its 512th.
    while (calls < 460) {
      if (calls == 0 || lot.nextInt(kind == 0 ? 8 : 60) == 0) tellOne(kind);
      else oneCall();
    }
    while (calls < 512) due("count", x.count(calls % 9), m.count(calls % 9));
  }

  private int r(int n) { return lot.nextInt(n); }

  // ---- texts

  private String blank() { return r(9) == 0 ? "\n" : r(6) == 0 ? "  " : " "; }
  private String sum(int deep, boolean likes) {
    StringBuilder b = new StringBuilder(term(deep, likes));
    for (int i = r(3); i > 0; i--) b.append(blank()).append(r(2) == 0 ? "+" : "-").append(blank()).append(term(deep, likes));
    return b.toString();
  }
  private String term(int deep, boolean likes) {
    StringBuilder b = new StringBuilder(atom(deep, likes));
    for (int i = r(6) == 0 ? 1 + r(4) : r(2) / 2; i > 0; i--) b.append(" *").append(blank()).append(atom(deep, likes));
    return b.toString();
  }
  private String atom(int deep, boolean likes) {
    if (deep > 0 && r(4) == 0) return "(" + sum(deep - 1, likes) + ")";
    if (r(3) == 0) return "" + (r(5) == 0 ? r(1000) : r(10));
    String[] names = likes ? new String[] {"cross", "ink", "who", "whom", "mark", "theirs"} : new String[] {"cross", "ink", "many"};
    return names[r(names.length)];
  }
  private String truth(int deep) {
    StringBuilder b = new StringBuilder(both(deep));
    for (int i = r(4) == 0 ? 1 : 0; i > 0; i--) b.append(" or ").append(both(deep));
    return b.toString();
  }
  private String both(int deep) {
    StringBuilder b = new StringBuilder(unit(deep));
    for (int i = r(4) == 0 ? 1 : 0; i > 0; i--) b.append(" and ").append(unit(deep));
    return b.toString();
  }
  private String unit(int deep) {
    if (deep > 0 && r(4) == 0) return "not " + unit(deep - 1);
    if (deep > 0 && r(4) == 0) return "[" + truth(deep - 1) + "]";
    if (r(2) == 0) return "cross < " + r(9);
    return sum(deep, false) + blank() + "=<>".charAt(r(3)) + blank() + sum(deep, false);
  }
  private String text(int kind) {
    int people = r(10) == 0 ? r(8) : 3 + r(5);
    int ink = r(4);
    StringBuilder b = new StringBuilder("society;");
    boolean[] taken = new boolean[9];
    for (int p = 0; p < people; p++) {
      b.append("person");
      for (int row = 0; row < 3; row++) b.append(blank()).append(ink == 0 ? 7 : ink == 1 ? r(8) & r(8) : r(8));
      for (int i = r(3); i > 0; i--) {
        int flag = r(3);
        b.append(blank()).append(flag == 0 ? "mark " + r(10) : flag == 1 ? "shy " + (r(2) == 0 ? 10 * r(2) : r(11)) : "odds " + r(10));
      }
      b.append(r(5) == 0 ? " ;" : ";");
      if (p > 0 && r(4) == 0) {
        int a = r(p + 1), c = r(p + 1);
        if (a != c && !taken[a] && !taken[c]) { b.append("engaged ").append(a).append(' ').append(c).append(';'); taken[a] = taken[c] = true; }
      }
    }
    for (int i = r(4) == 0 ? 2 : r(3); i > 0; i--) {
      if (r(5) < 2) b.append("fits").append(blank()).append(":").append(truth(3)).append(";");
      else b.append("likes").append(blank()).append(": ").append(likesLaw()).append(r(3) == 0 ? "\n;" : ";");
    }
    if (kind == 0 && r(3) > 0) for (int i = 1 + r(2); i > 0; i--) spoil(b);
    if (b.length() > 900) b.setLength(900);
    return b.toString();
  }
  private String likesLaw() {
    switch (r(9)) {
      case 5: case 6: case 7: case 8: return choosy();
      case 0: return "5 - cross - (mark - theirs) * (mark - theirs)";
      case 1: return "(who * " + (1 + r(9)) + " + whom * " + (1 + r(9)) + ") * (whom + " + r(5) + ") - " + r(20) + " + theirs";
      case 2: return 1 + r(30) + " + mark * whom - who * theirs - ink";
      default: return sum(3, true);
    }
  }
  /** All would, and each mark likes in an order of its own: so more than one pairing may hold, or none. */
  private String choosy() {
    int a = 1 + r(7), c = r(9);
    switch (r(4)) {
      case 0: return "999 - (whom - mark) * (whom - mark)";
      case 1: return "999 - (whom * " + a + " - mark - who - " + c + ") * (whom * " + a + " - mark - who - " + c + ")";
      case 2: return "999 - (whom * whom - mark * " + a + " + who) * (whom * whom - mark * " + a + " + who)";
      default: return "99 - (whom - mark) * (whom - mark) * " + a + " + theirs * " + c;
    }
  }
  private void spoil(StringBuilder b) {
    int at = r(b.length() + 1);
    switch (r(4)) {
      case 0: b.insert(at, ODD[r(ODD.length)]); break;
      case 1: b.insert(at, " " + ODD[r(ODD.length)] + " "); break;
      case 2: if (at < b.length()) b.deleteCharAt(at); break;
      default: b.setLength(at);
    }
  }

  private void tellOne(int kind) {
    String t = text(kind);
    for (int at = 0; at < t.length(); at += 20) {
      int[] f = new int[5];
      for (int i = 0; i < 20; i++) f[i / 4] = f[i / 4] << 8 | (at + i < t.length() ? t.charAt(at + i) & 255 : 32);
      due("feed of " + t, x.feed(f[0], f[1], f[2], f[3], f[4]), m.feed(f[0], f[1], f[2], f[3], f[4]));
    }
    int n = r(20) == 0 ? r(t.length() + 60) - 20 : t.length();
    due("society(" + n + ") of " + t, x.society(n), m.society(n));
    due("fault(0) of " + t, x.fault(0), m.fault(0));
    due("fault(1) of " + t, x.fault(1), m.fault(1));
  }

  // ---- calls

  /** Mostly one who is there. */
  private int p() { int n = Math.max(1, m.n()); return r(15) == 0 ? r(12) - 3 : r(n); }
  private int set() { return r(15) == 0 ? r(400) - 100 : r(1 << m.n()); }
  private int t() { return r(20) == 0 ? r(9) - 3 : r(4); }
  private int what(int n) { return r(15) == 0 ? r(n + 6) - 3 : r(n); }

  private void oneCall() {
    int p = p(), q = p(), t = t(), set = set();
    switch (r(46)) {
      case 0: { int a = lot.nextInt(), b = lot.nextInt(); due("feed", x.feed(a, b, a, b, a), m.feed(a, b, a, b, a)); break; }
      case 1: { int n = r(8) == 0 ? m.count(6) : -1; due("society(" + n + ")", x.society(n), m.society(n)); break; }
      case 2: { int w = what(2); due("fault(" + w + ")", x.fault(w), m.fault(w)); break; }
      case 3: { int w = what(7); due("person(" + p + "," + w + ")", x.person(p, w), m.person(p, w)); break; }
      case 4: due("crosses(" + p + "," + q + ")", x.crosses(p, q), m.crosses(p, q)); break;
      case 5: due("likes(" + p + "," + q + ")", x.likes(p, q), m.likes(p, q)); break;
      case 6: case 7: case 8: due("engage(" + p + "," + q + ")", x.engage(p, q), m.engage(p, q)); break;
      case 9: due("part(" + p + ")", x.part(p), m.part(p)); break;
      case 10: case 11: { int c = what(9); due("stroke(" + p + "," + c + ")", x.stroke(p, c), m.stroke(p, c)); break; }
      case 12: case 13: { int n = what(10); due("mark(" + p + "," + n + ")", x.mark(p, n), m.mark(p, n)); break; }
      case 14: { int n = r(3) == 0 ? r(13) - 1 : 1; due("undo(" + n + ")", x.undo(n), m.undo(n)); break; }
      case 15: deedsTray(t); for (int w = -1; w < 5; w++) due("judge(" + t + "," + w + ")", x.judge(t, w), m.judge(t, w)); break;
      case 16: deedsTray(t); due("perform(" + t + ")", x.perform(t), m.perform(t)); break;
      case 17: { int seed = lot.nextInt(), n = r(9) == 0 ? r(50) - 4 : 1 + r(40); due("year(" + seed + "," + n + ")", x.year(seed, n), m.year(seed, n)); break; }
      case 18: due("holds", x.holds(), m.holds()); break;
      case 19: due("breaks", x.breaks(), m.breaks()); break;
      case 20: due("breaking", x.breaking(), m.breaking()); break;
      case 21: due("pairings", x.pairings(), m.pairings()); break;
      case 22: { int k = r(4) - 1; due("partner(" + k + "," + p + ")", x.partner(k, p), m.partner(k, p)); break; }
      case 23: due("can(" + p + ")", x.can(p), m.can(p)); break;
      case 24: due("sure", x.sure(), m.sure()); break;
      case 25: due("most", x.most(), m.most()); break;
      case 26: due("triangle", x.triangle(), m.triangle()); break;
      case 27: { int w = r(3) == 0 ? 0 : 10 + p; due("monogram(" + set + "," + w + ")", x.monogram(set, w), m.monogram(set, w)); break; }
      case 28: due("fits(" + set + ")", x.fits(set), m.fits(set)); break;
      case 29: due("largest", x.largest(), m.largest()); break;
      case 30: due("misfits", x.misfits(), m.misfits()); break;
      case 31: { int w = what(2); due("change(" + p + "," + q + "," + w + ")", x.change(p, q, w), m.change(p, q, w)); break; }
      case 32: blotTray(t); due("blot(" + t + ")", x.blot(t), m.blot(t)); break;
      case 33: blotTray(t); { int w = what(2); due("likely(" + t + "," + p + "," + w + ")", x.likely(t, p, w), m.likely(t, p, w)); } break;
      case 34: blotTray(t); due("look(" + t + ")", x.look(t), m.look(t)); break;
      case 35: answersTray(t); due("marks(" + t + "," + p + ")", x.marks(t, p), m.marks(t, p)); break;
      case 36: answersTray(t); due("ask(" + t + "," + p + ")", x.ask(t, p), m.ask(t, p)); break;
      case 37: due("wins(" + set + ")", x.wins(set), m.wins(set)); break;
      case 38: due("best(" + set + ")", x.best(set), m.best(set)); break;
      case 39: due("lasts(" + set + ")", x.lasts(set), m.lasts(set)); break;
      case 40: { int w = what(2); due("chance(" + p + "," + w + ")", x.chance(p, w), m.chance(p, w)); break; }
      case 41: due("likeliest(" + p + ")", x.likeliest(p), m.likeliest(p)); break;
      case 42: { int k = r(3) - (r(9) == 0 ? 1 : 0); due("lists(" + t + "," + k + ")", x.lists(t, k), m.lists(t, k)); break; }
      case 43: { int i = what(2); due("image(" + i + ")", x.image(i), m.image(i)); break; }
      case 44: { int i = what(2); due("restore(" + i + ")", x.restore(i), m.restore(i)); break; }
      default: { int w = what(8); due("count(" + w + ")", x.count(w), m.count(w)); break; }
    }
  }

  private void numbers(int t, int sort, int n) {
    due("numbers(" + t + "," + sort + "," + n + ")", x.numbers(t, sort, n), m.numbers(t, sort, n));
  }
  private void write(int t, int i, long v) {
    due("write(" + t + "," + i + "," + v + ")", x.write(t, i, v), m.write(t, i, v));
  }
  private void deedsTray(int t) {
    if (r(4) == 0) return;
    int n = r(9) == 0 ? r(45) - 2 : r(9);
    numbers(t, 1 + r(3), n);
    for (int i = 0; i < n; i++) {
      int a = r(Math.max(1, m.n())), kind = r(12);
      write(t, i, kind < 5 ? 10 * a + p() : kind < 6 ? 100 + a : kind < 9 ? 200 + 10 * a + what(9) : kind < 11 ? 300 + 10 * a + r(10) : r(3) == 0 ? lot.nextLong() : r(450) - 20);
    }
  }
  private void blotTray(int t) {
    if (r(4) == 0) return;
    int n = r(9) == 0 ? r(24) - 2 : 1 + r(3);
    numbers(t, r(4), n);
    for (int i = 0; i < n; i++) write(t, i, r(25) == 0 ? lot.nextLong() : r(40) == 0 ? 18 : r(18));
  }
  private void answersTray(int t) {
    if (r(5) == 0) return;
    int n = r(12) == 0 ? r(9) : m.n();
    numbers(t, what(4), n);
    if (r(2) == 0) { int k = r(2); due("lists(" + t + "," + k + ")", x.lists(t, k), m.lists(t, k)); return; }
    int[] w = new int[Math.max(0, n)];
    java.util.Arrays.fill(w, -1);
    for (int i = 0; i < n; i++) {
      int j = r(n);
      if (i != j && w[i] < 0 && w[j] < 0 && r(2) == 0) { w[i] = j; w[j] = i; }
    }
    if (n > 0 && r(8) == 0) w[r(n)] = r(10) - 2;
    for (int i = 0; i < n; i++) write(t, i, w[i]);
  }
}
