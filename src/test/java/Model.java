import java.util.ArrayDeque;
import java.util.ArrayList;
import java.util.Arrays;
import java.util.HashMap;
import java.util.List;
import java.util.Map;

/**
 * The document told once more, as plainly and slowly as can be and by other ways than the class:
 * laws are trees, monograms are counted cell by cell of the ring, all pairings are listed and sorted.
 */
final class Model {
  static final int NONE = -1;

  /** A fault of a text. */
  static final class Fault extends RuntimeException {
    private static final long serialVersionUID = 1L;
    final int kind;
    final int place;
    Fault(int kind, int place) { super("fault"); this.kind = kind; this.place = place; }
  }

  interface Node { long of(Map<String, Integer> names); }

  static final class Person {
    boolean[] ink = new boolean[9];
    int mark, shy, odds = 1, with = NONE;
    Person copy() {
      Person o = new Person();
      o.ink = ink.clone(); o.mark = mark; o.shy = shy; o.odds = odds; o.with = with;
      return o;
    }
    int bits() { int b = 0; for (int c = 0; c < 9; c++) if (ink[c]) b += 1 << c; return b; }
    int cells() { int n = 0; for (boolean i : ink) if (i) n++; return n; }
  }

  static final class State {
    List<Person> people = new ArrayList<>();
    Node fits, likes;
    int lines;
    State copy() {
      State o = new State();
      for (Person p : people) o.people.add(p.copy());
      o.fits = fits; o.likes = likes; o.lines = lines;
      return o;
    }
  }

  // ---- the text

  static final class Parser {
    final String text;
    int pos = 0, start;
    String tok;
    State s = new State();
    boolean likes;
    Parser(String text) { this.text = text; next(); }

    void next() {
      while (pos < text.length() && (text.charAt(pos) == 10 || text.charAt(pos) == 32)) pos++;
      start = pos;
      if (pos >= text.length()) { start = text.length(); tok = ""; return; }
      char c = text.charAt(pos);
      if (c >= 'a' && c <= 'z') while (pos < text.length() && text.charAt(pos) >= 'a' && text.charAt(pos) <= 'z') pos++;
      else if (c >= '0' && c <= '9') {
        while (pos < text.length() && text.charAt(pos) >= '0' && text.charAt(pos) <= '9') pos++;
        if (pos - start > 3) { tok = "?"; return; }
      } else if (";:+-*()[]=<>".indexOf(c) >= 0) pos++;
      else { tok = "?"; return; }
      tok = text.substring(start, pos);
    }
    RuntimeException bad(int kind) { return new Fault(tok.equals("?") ? 1 : kind, start); }
    boolean is(String t) { return tok.equals(t); }
    void want(String t) { if (!is(t)) throw bad(2); next(); }
    boolean isN() { return !tok.isEmpty() && Character.isDigit(tok.charAt(0)); }
    int n(int most) {
      if (!isN()) throw bad(2);
      int v = Integer.parseInt(tok);
      if (v > most) throw bad(3);
      next();
      return v;
    }

    State read() {
      want("society"); want(";"); s.lines = 1;
      while (!is("")) { line(); want(";"); s.lines++; }
      return s;
    }
    void line() {
      if (is("person")) {
        if (s.people.size() == 7) throw bad(4);
        next();
        Person p = new Person();
        for (int row = 0; row < 3; row++) {
          int v = n(7);
          p.ink[3 * row] = v >= 4; p.ink[3 * row + 1] = v % 4 >= 2; p.ink[3 * row + 2] = v % 2 == 1;
        }
        while (is("mark") || is("shy") || is("odds")) {
          String flag = tok;
          next();
          if (flag.equals("mark")) p.mark = n(9); else if (flag.equals("shy")) p.shy = n(10); else p.odds = n(9);
        }
        s.people.add(p);
      } else if (is("engaged")) {
        next();
        int a = one(NONE), b = one(a);
        s.people.get(a).with = b; s.people.get(b).with = a;
      } else if (is("fits")) { next(); want(":"); likes = false; s.fits = truth(0); }
      else if (is("likes")) { next(); want(":"); likes = true; s.likes = sum(0); }
      else throw bad(2);
    }
    int one(int other) {
      if (!isN()) throw bad(2);
      int v = Integer.parseInt(tok);
      if (v >= s.people.size() || v == other || s.people.get(v).with != NONE) throw bad(3);
      next();
      return v;
    }
    Node truth(int d) {
      Node l = both(d);
      while (is("or")) { next(); Node a = l, b = both(d); l = m -> a.of(m) + b.of(m) > 0 ? 1 : 0; }
      return l;
    }
    Node both(int d) {
      Node l = unit(d);
      while (is("and")) { next(); Node a = l, b = unit(d); l = m -> a.of(m) * b.of(m); }
      return l;
    }
    Node unit(int d) {
      if (is("not")) { if (d == 6) throw bad(4); next(); Node a = unit(d + 1); return m -> a.of(m) == 0 ? 1 : 0; }
      if (is("[")) { if (d == 6) throw bad(4); next(); Node a = truth(d + 1); want("]"); return a; }
      Node a = sum(d);
      String sign = tok;
      if (!is("=") && !is("<") && !is(">")) throw bad(2);
      next();
      Node b = sum(d);
      if (sign.equals("=")) return m -> a.of(m) == b.of(m) ? 1 : 0;
      if (sign.equals("<")) return m -> a.of(m) < b.of(m) ? 1 : 0;
      return m -> a.of(m) > b.of(m) ? 1 : 0;
    }
    static long kept(long v) { return Math.max(-1000000, Math.min(1000000, v)); }
    Node sum(int d) {
      Node l = term(d);
      while (is("+") || is("-")) {
        int f = is("+") ? 1 : -1;
        next();
        Node a = l, b = term(d);
        l = m -> kept(a.of(m) + f * b.of(m));
      }
      return l;
    }
    Node term(int d) {
      Node l = atom(d);
      while (is("*")) { next(); Node a = l, b = atom(d); l = m -> kept(a.of(m) * b.of(m)); }
      return l;
    }
    Node atom(int d) {
      if (isN()) { int v = n(999); return m -> v; }
      if (is("(")) { if (d == 6) throw bad(4); next(); Node a = sum(d + 1); want(")"); return a; }
      List<String> names = likes ? List.of("cross", "ink", "who", "whom", "mark", "theirs") : List.of("cross", "ink", "many");
      if (!names.contains(tok)) throw bad(2);
      String name = tok;
      next();
      return m -> m.get(name);
    }
  }

  // ---- what is held

  StringBuilder tape = new StringBuilder();
  State s = new State();
  ArrayDeque<State> past = new ArrayDeque<>();
  int faultKind = 0, faultPlace = NONE;
  long[][] trays = new long[4][];
  int[] sorts = new int[4];
  State[] images = new State[2];
  private static final Map<Long, int[]> MONOGRAMS = new HashMap<>();
  /** Who matches whom and who likes whom how much, as tables() found it latest. */
  private boolean[][] matchTable;
  private int[][] likeTable;

  int n() { return s.people.size(); }
  boolean is(int p) { return p >= 0 && p < n(); }
  boolean two(int p, int q) { return is(p) && is(q) && p != q; }
  int all() { return (1 << n()) - 1; }

  int feed(int a, int b, int c, int d, int e) {
    if (tape.length() > 880) return -5;
    for (int v : new int[] {a, b, c, d, e})
      for (int sh = 24; sh >= 0; sh -= 8) tape.append((char) (v >>> sh & 255));
    return tape.length();
  }
  int society(int n) {
    if (n < 0 || n > tape.length()) return -3;
    String text = tape.substring(0, n);
    tape.setLength(0);
    faultKind = 0; faultPlace = NONE;
    try {
      s = new Parser(text).read();
      past.clear();
      return s.lines;
    } catch (Fault f) {
      faultKind = f.kind; faultPlace = f.place;
      return -30 - f.kind;
    }
  }
  int fault(int what) { return what == 0 ? faultKind : what == 1 ? faultPlace : NONE; }
  int person(int p, int what) {
    if (!is(p) || what < 0 || what > 6) return -2;
    Person o = s.people.get(p);
    if (what == 6) { int b = 0; for (int q = 0; q < n(); q++) if (match(p, q)) b += 1 << q; return b; }
    return new int[] {o.bits(), o.cells(), o.mark, o.shy, o.odds, o.with}[what];
  }

  /** Crossings, then the shift of each member: all ways are tried, the ring's cells counted. */
  int[] mono(List<boolean[]> signs) {
    long key = 1;
    for (boolean[] g : signs) for (boolean ink : g) key = 2 * key + (ink ? 1 : 0);
    return MONOGRAMS.computeIfAbsent(key, k -> {
      int m = signs.size();
      int ways = 1;
      for (int i = 0; i < m; i++) ways *= 9;
      int[] best = null;
      int[] shifts = new int[m];
      for (int w = 0; w < ways; w++) {
        int rest = w;
        for (int i = m - 1; i >= 0; i--) { shifts[i] = rest % 9; rest /= 9; }
        int[] ring = new int[25];
        for (int i = 0; i < m; i++)
          for (int c = 0; c < 9; c++)
            if (signs.get(i)[c]) ring[(shifts[i] / 3 + c / 3) * 5 + shifts[i] % 3 + c % 3]++;
        int crossings = 0;
        for (int r : ring) crossings += r * (r - 1) / 2;
        if (best == null || crossings < best[0]) {
          best = new int[m + 1];
          best[0] = crossings;
          System.arraycopy(shifts, 0, best, 1, m);
        }
      }
      return best;
    });
  }
  int[] mono(int set) {
    List<boolean[]> l = new ArrayList<>();
    for (int p = 0; p < n(); p++) if ((set >> p & 1) == 1) l.add(s.people.get(p).ink);
    return mono(l);
  }
  boolean fit(int set) {
    if (Integer.bitCount(set) > 4) return false;
    int ink = 0;
    for (int p = 0; p < n(); p++) if ((set >> p & 1) == 1) ink += s.people.get(p).cells();
    return law(mono(set)[0], ink, Integer.bitCount(set));
  }
  boolean law(int cross, int ink, int many) {
    if (s.fits == null) return cross < 2;
    return s.fits.of(Map.of("cross", cross, "ink", ink, "many", many)) == 1;
  }
  int like(int p, int q) {
    if (s.likes == null) return 1;
    Person a = s.people.get(p), b = s.people.get(q);
    return (int) s.likes.of(Map.of("cross", mono(1 << p | 1 << q)[0], "ink", b.cells(), "who", p, "whom", q,
        "mark", a.mark, "theirs", b.mark));
  }
  boolean match(int p, int q) { return p != q && like(p, q) > 0 && like(q, p) > 0 && fit(1 << p | 1 << q); }
  boolean better(int p, int q, int r) {
    return r == NONE || like(p, q) > like(p, r) || like(p, q) == like(p, r) && q < r;
  }
  int crosses(int p, int q) { return two(p, q) ? mono(1 << p | 1 << q)[0] : -2; }
  int likes(int p, int q) { return two(p, q) ? like(p, q) : -99000002; }

  // ---- deeds

  int left;
  int doEngage(int p, int q) {
    if (!two(p, q)) return 1;
    Person a = s.people.get(p), b = s.people.get(q);
    if (a.with == q) return 2;
    if (!match(p, q)) return 3;
    if (!better(p, q, a.with) || !better(q, p, b.with)) return 4;
    left = 0;
    if (a.with != NONE) { s.people.get(a.with).with = NONE; left++; }
    if (b.with != NONE) { s.people.get(b.with).with = NONE; left++; }
    a.with = q; b.with = p;
    return 0;
  }
  int doPart(int p) {
    if (!is(p)) return 1;
    Person a = s.people.get(p);
    if (a.with == NONE) return 2;
    s.people.get(a.with).with = NONE;
    a.with = NONE;
    return 0;
  }
  int doStroke(int p, int c) {
    if (!is(p) || c < 0 || c > 8) return 1;
    s.people.get(p).ink[c] ^= true;
    return 0;
  }
  int doMark(int p, int m) {
    if (!is(p) || m < 0 || m > 9) return 1;
    s.people.get(p).mark = m;
    return 0;
  }
  int deed(long v) {
    if (v >= 0 && v <= 99) return doEngage((int) v / 10, (int) v % 10);
    if (v >= 100 && v <= 109) return doPart((int) v - 100);
    if (v >= 200 && v <= 299) return doStroke((int) (v - 200) / 10, (int) v % 10);
    if (v >= 300 && v <= 399) return doMark((int) (v - 300) / 10, (int) v % 10);
    return 1;
  }
  void keep(State before) {
    past.addLast(before);
    if (past.size() > 10) past.removeFirst();
  }
  int engage(int p, int q) {
    State before = s.copy();
    int why = doEngage(p, q);
    if (why > 0) return -10 - why;
    keep(before);
    return left;
  }
  int part(int p) {
    State before = s.copy();
    int why = doPart(p);
    if (why > 0) return -10 - why;
    keep(before);
    return before.people.get(p).with;
  }
  int stroke(int p, int c) {
    State before = s.copy();
    int why = doStroke(p, c);
    if (why > 0) return -10 - why;
    keep(before);
    return s.people.get(p).ink[c] ? 1 : 0;
  }
  int mark(int p, int m) {
    State before = s.copy();
    int why = doMark(p, m);
    if (why > 0) return -10 - why;
    keep(before);
    return before.people.get(p).mark;
  }
  int undo(int n) {
    if (n < 1 || n > past.size()) return -3;
    for (int i = 0; i < n; i++) s = past.removeLast();
    return past.size();
  }
  boolean tray(int t) { return t >= 0 && t < 4; }
  int judge(int t, int what) {
    if (!tray(t) || what < 0 || what > 3) return -2;
    if (trays[t] == null) return -6;
    State before = s.copy();
    int at = NONE, why = 0;
    for (int i = 0; i < trays[t].length && why == 0; i++) {
      why = deed(trays[t][i]);
      if (why != 0) at = i;
    }
    int[] answers = {at, why, count(1), count(3)};
    s = before;
    return answers[what];
  }
  int perform(int t) {
    if (!tray(t)) return -2;
    if (trays[t] == null) return -6;
    State before = s.copy();
    int done = 0;
    while (done < trays[t].length && deed(trays[t][done]) == 0) done++;
    if (done > 0) keep(before);
    return done;
  }
  int x;
  int draw(int m) { x = 1103515245 * x + 12345; return (x >>> 16) % m; }
  int year(int seed, int times) {
    if (times < 1 || times > 40) return -3;
    State before = s.copy();
    x = seed;
    int done = 0;
    for (int i = 0; i < times; i++) {
      int kind = draw(6), p = draw(7), why;
      if (kind <= 2) { int q = draw(7); why = deed(10 * p + q); }
      else if (kind == 3) why = deed(100 + p);
      else if (kind == 4) { int c = draw(9); why = deed(200 + 10 * p + c); }
      else { int m = draw(10); why = deed(300 + 10 * p + m); }
      if (why == 0) done++;
    }
    if (done > 0) keep(before);
    return done;
  }

  // ---- what holds

  int[] now() { int[] w = new int[n()]; for (int p = 0; p < n(); p++) w[p] = s.people.get(p).with; return w; }
  void tables() {
    matchTable = new boolean[n()][n()];
    likeTable = new int[n()][n()];
    for (int p = 0; p < n(); p++)
      for (int q = 0; q < n(); q++)
        if (p != q) { matchTable[p][q] = match(p, q); likeTable[p][q] = like(p, q); }
  }
  boolean tempted(int p, int q, int has) {
    if (has == NONE) return true;
    return likeTable[p][q] > likeTable[p][has] || likeTable[p][q] == likeTable[p][has] && q < has;
  }
  boolean breakIt(int[] w, int p, int q) {
    return matchTable[p][q] && w[p] != q && tempted(p, q, w[p]) && tempted(q, p, w[q]);
  }
  boolean stable(int[] w, int group) {
    for (int p = 0; p < n(); p++) {
      if (w[p] != NONE && !matchTable[p][w[p]]) return false;
      for (int q = 0; q < n(); q++)
        if ((group >> p & 1) == 1 && (group >> q & 1) == 1 && p != q && breakIt(w, p, q)) return false;
    }
    return true;
  }
  /** All pairings within a group that hold, in order. */
  List<int[]> stables(int group) {
    tables();
    List<int[]> out = new ArrayList<>();
    int[] w = new int[n()];
    listAll(w, 0, group, out);
    out.sort((a, b) -> Arrays.compare(a, b));
    return out;
  }
  private void listAll(int[] w, int p, int group, List<int[]> out) {
    if (p == n()) {
      for (int i = 0; i < n(); i++) if (w[i] != NONE && w[w[i]] != i) return;
      if (stable(w, group)) out.add(w.clone());
      return;
    }
    for (int q = n() - 1; q >= NONE; q--) {
      if (q == p) continue;
      if (q != NONE && ((group >> p & 1) == 0 || (group >> q & 1) == 0)) continue;
      if (q != NONE && q < p && w[q] != p) continue;
      w[p] = q;
      listAll(w, p + 1, group, out);
    }
  }
  int holds() { tables(); return stable(now(), all()) ? 1 : 0; }
  int breaks() {
    tables();
    int b = 0;
    for (int p = 0; p < n(); p++) for (int q = p + 1; q < n(); q++) if (breakIt(now(), p, q)) b++;
    return b;
  }
  int breaking() {
    tables();
    for (int v = 0; v < 100; v++) {
      int p = v / 10, q = v % 10;
      if (p < q && q < n() && breakIt(now(), p, q)) return v;
    }
    return NONE;
  }
  int pairings() { return stables(all()).size(); }
  int partner(int k, int p) {
    if (!is(p)) return -2;
    if (k < 0) return -3;
    List<int[]> l = stables(all());
    return k < l.size() ? l.get(k)[p] : NONE;
  }
  int can(int p) {
    if (!is(p)) return -2;
    int b = 0;
    for (int[] w : stables(all())) if (w[p] != NONE) b |= 1 << w[p];
    return b;
  }
  int sure() {
    int b = 0;
    List<int[]> l = stables(all());
    for (int p = 0; p < n(); p++) {
      boolean same = true;
      for (int[] w : l) for (int[] v : l) if (w[p] != v[p]) same = false;
      if (same) b |= 1 << p;
    }
    return b;
  }
  int most() { return mostIn(all()); }
  private int mostIn(int free) {
    int best = 0;
    for (int p = 0; p < n(); p++)
      for (int q = p + 1; q < n(); q++)
        if ((free >> p & 1) == 1 && (free >> q & 1) == 1 && match(p, q))
          best = Math.max(best, 1 + mostIn(free - (1 << p) - (1 << q)));
    return best;
  }
  int triangle() {
    for (int v = 0; v < 1000; v++) {
      int a = v / 100, b = v / 10 % 10, c = v % 10;
      if (!two(a, b) || !two(b, c) || !two(a, c) || a > b || a > c) continue;
      if (match(a, b) && match(b, c) && match(a, c) && better(a, b, c) && better(b, c, a) && better(c, a, b)) return v;
    }
    return NONE;
  }

  // ---- rings

  boolean inside(int set) { return set >= 0 && set <= all(); }
  int monogram(int set, int what) {
    if (what != 0 && (what < 10 || !is(what - 10))) return -2;
    if (!inside(set) || set == 0 || Integer.bitCount(set) > 4) return -3;
    int[] m = mono(set);
    if (what == 0) return m[0];
    int p = what - 10, at = 1;
    if ((set >> p & 1) == 0) return NONE;
    for (int q = 0; q < p; q++) at += set >> q & 1;
    return m[at];
  }
  int fits(int set) { return !inside(set) || set == 0 ? -3 : fit(set) ? 1 : 0; }
  int largest() {
    int best = 0;
    for (int set = 1; set <= all(); set++)
      if (Integer.bitCount(set) > Integer.bitCount(best) && fit(set)) best = set;
    return best;
  }
  int misfits() {
    int best = 0;
    for (int set = 1; set <= all(); set++) {
      int k = Integer.bitCount(set);
      if (k < 3 || k > 4 || fit(set) || best != 0 && Integer.bitCount(best) <= k) continue;
      boolean each = true;
      for (int p = 0; p < n(); p++)
        for (int q = 0; q < p; q++) {
          int t = 1 << p | 1 << q;
          if ((set & t) == t && !fit(t)) each = false;
        }
      if (each) best = set;
    }
    return best;
  }
  int change(int p, int q, int what) {
    if (!two(p, q) || what < 0 || what > 1) return -2;
    boolean[] own = s.people.get(p).ink, other = s.people.get(q).ink;
    int best = NONE, fewest = 10;
    for (int sign = 0; sign < 512; sign++) {
      boolean[] g = new boolean[9];
      int d = 0, cells = s.people.get(q).cells();
      for (int c = 0; c < 9; c++) { g[c] = (sign >> c & 1) == 1; if (g[c] != own[c]) d++; if (g[c]) cells++; }
      if (d < fewest && law(mono(List.of(g, other))[0], cells, 2)) { fewest = d; best = sign; }
    }
    return best == NONE ? NONE : what == 0 ? fewest : best;
  }

  // ---- blots, marks

  int blot(int t) {
    if (!tray(t)) return -2;
    if (trays[t] == null) return -6;
    if (trays[t].length < 1 || trays[t].length > 18) return -4;
    for (long v : trays[t]) if (v < 0 || v > 17) return -3;
    int b = 0;
    for (int p = 0; p < n(); p++) {
      boolean so = true;
      for (long v : trays[t]) if (s.people.get(p).ink[(int) v / 2] != (v % 2 == 1)) so = false;
      if (so) b |= 1 << p;
    }
    return b;
  }
  int odds(int set) { int o = 0; for (int p = 0; p < n(); p++) if ((set >> p & 1) == 1) o += s.people.get(p).odds; return o; }
  static int lowest(int a, int b, int what) {
    for (int d = Math.max(a, b); d > 1; d--) if (a % d == 0 && b % d == 0) { a /= d; b /= d; }
    return what == 0 ? a : b;
  }
  int likely(int t, int p, int what) {
    if (!tray(t) || !is(p) || what < 0 || what > 1) return -2;
    int set = blot(t);
    if (set < 0) return set;
    if (odds(set) == 0) return NONE;
    return lowest(odds(set & 1 << p), odds(set), what);
  }
  int look(int t) {
    int set = blot(t);
    if (set < 0) return set;
    if (set == 0) return NONE;
    int best = NONE, most = -1;
    for (int c = 0; c < 9; c++) {
      int yes = 0, no = 0;
      for (int p = 0; p < n(); p++)
        if ((set >> p & 1) == 1) { if (s.people.get(p).ink[c]) yes += s.people.get(p).odds; else no += s.people.get(p).odds; }
      if (Math.min(yes, no) > most) { most = Math.min(yes, no); best = c; }
    }
    return best;
  }
  int marks(int t, int p) {
    if (!tray(t) || !is(p)) return -2;
    if (trays[t] == null) return -6;
    if (trays[t].length != n()) return -4;
    int[] w = new int[n()];
    for (int i = 0; i < n(); i++) {
      long v = trays[t][i];
      if (v < -1 || v >= n() || v == i || v >= 0 && trays[t][(int) v] != i) return -3;
      w[i] = (int) v;
    }
    int b = 0, was = s.people.get(p).mark;
    for (int m = 0; m < 10; m++) { s.people.get(p).mark = m; tables(); if (stable(w, all())) b |= 1 << m; }
    s.people.get(p).mark = was;
    return b;
  }
  int ask(int t, int p) {
    int b = marks(t, p);
    if (b < 0) return b;
    if (b == 0) return NONE;
    int was = s.people.get(p).mark, best = NONE, most = -1;
    for (int q = 0; q < n(); q++) {
      if (q == p) continue;
      int yes = 0, no = 0;
      for (int m = 0; m < 10; m++)
        if ((b >> m & 1) == 1) { s.people.get(p).mark = m; if (like(p, q) > 0) yes++; else no++; }
      if (Math.min(yes, no) > most) { most = Math.min(yes, no); best = q; }
    }
    s.people.get(p).mark = was;
    return best;
  }

  // ---- by turns, chances

  /** Whether who is to add wins, and how many are added yet. */
  int[] game(int set) {
    boolean wins = false, moves = false;
    int soon = 99, late = 0;
    for (int p = 0; p < n(); p++) {
      int next = set | 1 << p;
      if (next == set || !fit(next)) continue;
      moves = true;
      int[] g = game(next);
      if (g[0] == 0) { wins = true; soon = Math.min(soon, g[1]); }
      late = Math.max(late, g[1]);
    }
    return new int[] {wins ? 1 : 0, !moves ? 0 : wins ? soon + 1 : late + 1};
  }
  int wins(int set) { return inside(set) ? game(set)[0] : -3; }
  int lasts(int set) { return inside(set) ? game(set)[1] : -3; }
  int best(int set) {
    if (!inside(set)) return -3;
    for (int p = 0; p < n(); p++) {
      int next = set | 1 << p;
      if (next != set && fit(next) && game(next)[0] == 0) return p;
    }
    return NONE;
  }
  /** Of each other one how likely p is with it, in parts of ten to the people. */
  int[] withs(int p) {
    int[] out = new int[n()];
    for (int group = 0; group <= all(); group++) {
      int weight = 1;
      for (int q = 0; q < n(); q++) weight *= (group >> q & 1) == 1 ? 10 - s.people.get(q).shy : s.people.get(q).shy;
      if (weight == 0) continue;
      List<int[]> l = stables(group);
      if (!l.isEmpty() && l.get(0)[p] != NONE) out[l.get(0)[p]] += weight;
    }
    return out;
  }
  int chance(int p, int what) {
    if (!is(p) || what < 0 || what > 1) return -2;
    int above = 0, below = 1;
    for (int w : withs(p)) { above += w; below *= 10; }
    // Only 2 and 5 can divide a power of ten.
    for (int d : new int[] {2, 5}) while (above % d == 0 && below % d == 0) { above /= d; below /= d; }
    return what == 0 ? above : below;
  }
  int likeliest(int p) {
    if (!is(p)) return -2;
    int best = NONE, most = 0;
    int[] w = withs(p);
    for (int q = 0; q < n(); q++) if (w[q] > most) { most = w[q]; best = q; }
    return best;
  }

  // ---- trays, images

  int numbers(int t, int sort, int n) {
    if (!tray(t) || sort < 0 || sort > 3) return -2;
    if (n < 0 || n > 40) return -3;
    trays[t] = new long[n];
    sorts[t] = sort;
    return 0;
  }
  long write(int t, int i, long v) {
    if (!tray(t)) return -2;
    if (trays[t] == null) return -6;
    if (i < 0 || i >= trays[t].length) return -7;
    int drop = 64 - (8 << sorts[t]);
    trays[t][i] = v << drop >> drop;
    return trays[t][i];
  }
  int lists(int t, int k) {
    if (!tray(t)) return -2;
    if (trays[t] == null) return -6;
    if (k < 0) return -3;
    List<int[]> l = stables(all());
    if (k >= l.size()) return -5;
    int m = Math.min(n(), trays[t].length);
    for (int i = 0; i < m; i++) trays[t][i] = l.get(k)[i];
    return m;
  }
  int image(int i) {
    if (i < 0 || i > 1) return -2;
    images[i] = s.copy();
    return 0;
  }
  int restore(int i) {
    if (i < 0 || i > 1) return -2;
    if (images[i] == null) return -5;
    s = images[i].copy();
    past.clear();
    return 0;
  }
  int count(int what) {
    int bits = 0, ink = 0;
    for (int p = 0; p < n(); p++) { if (s.people.get(p).with != NONE) bits |= 1 << p; ink += s.people.get(p).cells(); }
    switch (what) {
      case 0: return n();
      case 1: return bits;
      case 2: return Integer.bitCount(bits) / 2;
      case 3: return ink;
      case 4: return odds(all());
      case 5: return past.size();
      case 6: return tape.length();
      case 7: return s.lines;
      default: return NONE;
    }
  }
}
