/** Promises 8 to 15: deeds, undone, judged, performed, a year. */
public final class DeedsTest {
  private static final String FOUR = "society;person 0 0 0;person 0 0 0;person 0 0 0;person 0 0 0;";

  public static void main(String[] args) {
    engaging();
    reasons();
    parting();
    strokes();
    marks();
    undoing();
    refusedChangesNothing();
    judging();
    performing();
    years();
    Check.end();
  }

  private static void engaging() {
    RingSign x = Check.of(FOUR + "likes : 9 - whom;");
    Check.due("two alone", x.engage(2, 3), 0);
    Check.due("3 leaves 2", x.engage(0, 3), 1);
    Check.due("2 is with nobody", x.person(2, 5), -1);
    Check.due("3 is with 0", x.person(3, 5), 0);
    Check.due("two alone", x.engage(1, 2), 0);
    Check.due("both leave", x.engage(0, 1), 2);
    Check.due("who is with somebody", x.count(1), 3);
    Check.due("with each other", x.engage(0, 1), -12);
    Check.due("with each other", x.engage(1, 0), -12);
    Check.due("0 likes 1 better", x.engage(0, 2), -14);
    Check.due("0 likes 1 better", x.engage(2, 0), -14);
    Check.due("nothing changed", x.count(1), 3);
    RingSign y = Check.of(FOUR);
    Check.due("alike", y.engage(1, 2), 0);
    Check.due("of those liked alike the lesser number", y.engage(2, 0), 1);
    Check.due("not the greater one", y.engage(1, 2), -14);
    Check.due("not the greater one", y.engage(2, 3), -14);
  }

  private static void reasons() {
    RingSign x = Check.of("society;person 7 7 7;person 7 7 7;person 0 0 0;engaged 0 1;fits : cross = 0;likes : whom + who - 1;");
    Check.due("no such one", x.engage(0, 3), -11);
    Check.due("no such one", x.engage(-1, 0), -11);
    Check.due("both one", x.engage(2, 2), -11);
    Check.due("of several the first: 2 ahead of 3", x.engage(0, 1), -12);
    Check.due("they fit, and both would", x.engage(0, 2), 1);
    x.part(0);
    Check.due("they don't fit", x.engage(0, 1), -13);
    RingSign y = Check.of("society;person 0 0 0;person 0 0 0;person 0 0 0;engaged 1 2;likes : whom;");
    Check.due("1 doesn't like 0: 3 ahead of 4", y.engage(0, 1), -13);
    Check.due("both ways", y.engage(1, 0), -13);
    RingSign z = Check.of("society;person 0 0 0;person 0 0 0;person 0 0 0;engaged 0 1;likes : who * 5 - whom * 4 + 6;");
    // 0 likes 1: 2, 0 likes 2: -2; it is with 1, whom it likes, though 1 likes 2 less than 0.
    Check.due("0 would not", z.engage(0, 2), -13);
    Check.due("1 likes 0 better", z.engage(1, 2), -14);
  }

  private static void parting() {
    RingSign x = Check.of(FOUR + "engaged 3 1;");
    Check.due("with nobody", x.part(0), -12);
    Check.due("no such one", x.part(4), -11);
    Check.due("no such one", x.part(-1), -11);
    Check.due("from whom", x.part(1), 3);
    Check.due("nobody is with anybody", x.count(1), 0);
    Check.due("no more", x.part(3), -12);
    Check.due("undo", x.undo(1), 0);
    Check.due("from whom", x.part(3), 1);
  }

  private static void strokes() {
    RingSign x = Check.of(FOUR);
    Check.due("ink", x.stroke(1, 8), 1);
    Check.due("sign", x.person(1, 0), 256);
    Check.due("no ink any more", x.stroke(1, 8), 0);
    Check.due("sign", x.person(1, 0), 0);
    Check.due("cell", x.stroke(1, 9), -11);
    Check.due("cell", x.stroke(1, -1), -11);
    Check.due("no such one", x.stroke(4, 0), -11);
    Check.due("first cell", x.stroke(3, 0), 1);
    Check.due("sign", x.person(3, 0), 1);
    Check.due("cells", x.count(3), 1);
  }

  private static void marks() {
    RingSign x = Check.of("society;person 0 0 0 mark 4;");
    Check.due("what it was", x.mark(0, 9), 4);
    Check.due("what it was", x.mark(0, 9), 9);
    Check.due("the same mark is a deed, too", x.count(5), 2);
    Check.due("what it was", x.mark(0, 0), 9);
    Check.due("no mark", x.mark(0, 10), -11);
    Check.due("no mark", x.mark(0, -1), -11);
    Check.due("no such one", x.mark(1, 0), -11);
    Check.due("mark", x.person(0, 2), 0);
  }

  private static void undoing() {
    RingSign x = Check.of(FOUR);
    Check.due("nothing yet", x.undo(1), -3);
    for (int c = 0; c < 9; c++) x.stroke(0, c);
    x.mark(1, 5);
    Check.due("ten", x.count(5), 10);
    x.engage(2, 3);
    Check.due("the eldest is forgotten", x.count(5), 10);
    Check.due("n", x.undo(0), -3);
    Check.due("n", x.undo(-1), -3);
    Check.due("n", x.undo(11), -3);
    Check.due("the latest first", x.undo(1), 9);
    Check.due("nobody is with anybody", x.count(1), 0);
    Check.due("the mark is still there", x.person(1, 2), 5);
    Check.due("more than can be", x.undo(10), -3);
    Check.due("all that can be", x.undo(9), 0);
    Check.due("back behind the forgotten one", x.person(0, 0), 1);
    Check.due("mark", x.person(1, 2), 0);
    x.mark(2, 3);
    Check.due("one more", x.count(5), 1);
    Check.due("undone", x.undo(1), 0);
    Check.due("sign stays as it was", x.person(0, 0), 1);
  }

  private static void refusedChangesNothing() {
    RingSign x = Check.of("society;person 7 7 7 mark 3 shy 4;person 7 7 7 odds 2;person 1 2 4 mark 1;person 0 0 0;engaged 0 2;likes : 5 - whom;");
    x.stroke(3, 3);
    Check.tray(x, 1, 2, 400);
    String before = Check.all(x);
    x.engage(0, 2);
    x.engage(0, 0);
    x.engage(0, 9);
    x.engage(3, 2);
    x.part(1);
    x.part(9);
    x.stroke(0, 9);
    x.stroke(-1, 3);
    x.mark(0, 10);
    x.mark(7, 1);
    x.undo(2);
    x.undo(0);
    x.judge(1, 0);
    x.judge(0, 0);
    x.perform(1);
    x.perform(0);
    x.perform(4);
    x.year(5, 0);
    x.year(5, 41);
    x.society(1);
    x.society(-1);
    x.restore(0);
    x.restore(2);
    x.image(-1);
    x.lists(0, 0);
    x.numbers(1, 4, 1);
    x.numbers(1, 1, 41);
    Check.that("refused calls change nothing", before.equals(Check.all(x)));
    Check.due("the tray stays", x.judge(1, 0), 0);
  }

  private static void judging() {
    RingSign x = Check.of(FOUR + "likes : 9 - whom;");
    Check.due("missing", x.judge(0, 0), -6);
    Check.due("no tray", x.judge(4, 0), -2);
    Check.due("no tray", x.judge(-1, 0), -2);
    Check.due("what, ahead of missing", x.judge(0, 4), -2);
    Check.due("what", x.judge(0, -1), -2);
    Check.tray(x, 0, 1);
    Check.due("no deeds", x.judge(0, 0), -1);
    Check.due("no deeds", x.judge(0, 1), 0);
    Check.due("no deeds", x.judge(0, 2), 0);
    Check.tray(x, 0, 1, 23, 3, 200, 218, 309, 100);
    String before = Check.all(x);
    Check.due("all can be", x.judge(0, 0), -1);
    Check.due("all can be", x.judge(0, 1), 0);
    Check.due("who is with somebody then", x.judge(0, 2), 0);
    Check.due("cells then", x.judge(0, 3), 2);
    Check.that("as if done", before.equals(Check.all(x)));
    Check.tray(x, 0, 1, 23, 3, 200, 100, 103, 211);
    Check.due("3 is with nobody any more", x.judge(0, 0), 4);
    Check.due("why", x.judge(0, 1), 2);
    Check.due("cells of those ahead", x.judge(0, 3), 1);
    Check.tray(x, 0, 1, 23, 13, 2);
    Check.due("all can be", x.judge(0, 0), -1);
    Check.due("1 with 3, 0 with 2", x.judge(0, 2), 15);
    Check.tray(x, 0, 1, 1, 20);
    Check.due("0 likes 1 better", x.judge(0, 1), 4);
    Check.due("0 and 1 then", x.judge(0, 2), 3);
    why(x, 1, 11);
    why(x, 1, 4);
    why(x, 1, 40);
    why(x, 1, 99);
    why(x, 2, 100);
    why(x, 1, 104);
    why(x, 1, 109);
    why(x, 1, 110);
    why(x, 1, 199);
    why(x, 0, 200);
    why(x, 0, 238);
    why(x, 1, 239);
    why(x, 1, 240);
    why(x, 0, 300);
    why(x, 0, 339);
    why(x, 1, 340);
    why(x, 1, 399);
    why(x, 1, 400);
    why(x, 1, -1);
    why(x, 1, 1L << 32);
    why(x, 1, (1L << 32) + 1);
    why(x, 1, Long.MIN_VALUE);
    why(x, 0, 1);
    why(x, 0, 30);
    RingSign y = Check.of("society;person 0 0 0;person 0 0 0;likes : whom;");
    Check.tray(y, 3, 3, 1);
    Check.due("they don't match", y.judge(3, 1), 3);
    Check.due("its place", y.judge(3, 0), 0);
  }

  private static void why(RingSign x, int why, long deed) {
    Check.tray(x, 2, 3, deed);
    Check.due("why of " + deed, x.judge(2, 1), why);
    Check.due("place of " + deed, x.judge(2, 0), why == 0 ? -1 : 0);
  }

  private static void performing() {
    RingSign x = Check.of(FOUR + "likes : 9 - whom;");
    Check.due("no tray", x.perform(4), -2);
    Check.due("missing", x.perform(3), -6);
    Check.tray(x, 3, 2);
    Check.due("no deeds", x.perform(3), 0);
    Check.due("nothing to undo", x.count(5), 0);
    Check.tray(x, 3, 2, 400, 1);
    Check.due("the first can't be", x.perform(3), 0);
    Check.due("nothing to undo", x.count(5), 0);
    Check.tray(x, 3, 2, 200, 400);
    Check.due("one", x.perform(3), 1);
    Check.due("one call", x.count(5), 1);
    Check.due("undone", x.undo(1), 0);
    Check.tray(x, 3, 2, 1, 23, 205, 317, 23, 100);
    Check.due("till one can't be", x.perform(3), 4);
    Check.due("0 and 1 are still with each other", x.count(1), 15);
    Check.due("stroke", x.person(0, 0), 32);
    Check.due("mark", x.person(1, 2), 7);
    Check.due("one call", x.count(5), 1);
    Check.due("undone as a whole", x.undo(1), 0);
    Check.due("nobody", x.count(1), 0);
    Check.due("no stroke", x.person(0, 0), 0);
    Check.due("no mark", x.person(1, 2), 0);
  }

  private static void years() {
    RingSign none = new RingSign();
    Check.due("times", none.year(1, 0), -3);
    Check.due("times", none.year(1, 41), -3);
    Check.due("times", none.year(1, -5), -3);
    Check.due("nobody can", none.year(1, 40), 0);
    Check.due("nothing to undo", none.count(5), 0);
    String six = "society;person 0 0 0;person 0 0 0;person 0 0 0;person 0 0 0;person 0 0 0;person 0 0 0;";
    // The first draws of each seed, worked out by hand.
    RingSign one = Check.of(six);
    Check.due("seed 1: 16838, 38526, 10113: 5 and 5 can't", one.year(1, 1), 0);
    Check.due("nothing to undo", one.count(5), 0);
    Check.due("seed 3: 50515, 7107, 10365: 2 and 5 get engaged", one.year(3, 1), 1);
    Check.due("2 and 5", one.count(1), 36);
    Check.due("one call", one.count(5), 1);
    Check.due("seed 2: 33676, 22817, 43007: a stroke of 4 in cell 5", one.year(2, 1), 1);
    Check.due("cell 5", one.person(4, 0), 32);
    Check.due("seed 4: 1817, 56934, 43259: 3 has mark 9", one.year(4, 1), 1);
    Check.due("mark 9", one.person(3, 2), 9);
    Check.due("seed 10: 37311, 28214: 4 parts from nobody", one.year(10, 1), 0);
    one.engage(3, 4);
    Check.due("seed 10: 37311, 28214: 4 parts", one.year(10, 1), 1);
    Check.due("2 and 5", one.count(1), 36);
    Check.due("seed 7: 52332, 9806: there is no 6", one.year(7, 1), 0);
    Check.due("undone", one.undo(5), 0);
    Check.due("nobody", one.count(1), 0);
    String text = "society;person 7 7 7 mark 1;person 7 7 7;person 3 3 0;person 1 1 1;person 2 7 2;likes : 4 + mark - whom + theirs;fits : cross < 2;";
    for (int seed : new int[] {0, 1, -1, 77, Integer.MAX_VALUE, Integer.MIN_VALUE, 123456789}) {
      RingSign x = Check.of(text);
      RingSign y = Check.of(text);
      String before = Check.all(x);
      int could = 0;
      int drawn = seed;
      for (int i = 0; i < 40; i++) {
        int[] three = new int[3];
        int kind = ((drawn = 1103515245 * drawn + 12345) >>> 16) % 6;
        int draws = kind == 3 ? 1 : 2;
        for (int d = 0; d < draws; d++) three[d] = (drawn = 1103515245 * drawn + 12345) >>> 16;
        int p = three[0] % 7;
        int answer = kind <= 2 ? y.engage(p, three[1] % 7) : kind == 3 ? y.part(p)
            : kind == 4 ? y.stroke(p, three[1] % 9) : y.mark(p, three[1] % 10);
        if (answer >= 0) could++;
      }
      Check.due("year " + seed, x.year(seed, 40), could);
      String rest = Check.all(x).replaceFirst("^(\\S+ \\S+ \\S+ \\S+ \\S+ )\\S+", "$1");
      Check.that("as told one by one", rest.equals(Check.all(y).replaceFirst("^(\\S+ \\S+ \\S+ \\S+ \\S+ )\\S+", "$1")));
      Check.due("one call", x.count(5), could > 0 ? 1 : 0);
      if (could > 0) x.undo(1);
      Check.that("undone as a whole", before.equals(Check.all(x)));
    }
  }
}
