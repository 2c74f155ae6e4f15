/** Promises 16 to 24: pairings that hold and those that don't. */
public final class HoldsTest {
  /** Each likes best whose number is its mark; two full signs don't fit. */
  private static final String LIKES = "likes : 9 - (whom - mark) * (whom - mark);";
  private static final String TWO_WAYS = "society;person 7 7 7 mark 2;person 7 7 7 mark 3;person 0 0 0 mark 1;person 0 0 0 mark 0;fits : cross = 0;" + LIKES;
  private static final String NO_WAY = "society;person 0 0 0 mark 1;person 0 0 0 mark 2;person 0 0 0 mark 0;" + LIKES;

  public static void main(String[] args) {
    nobody();
    holding();
    twoWays();
    noWay();
    order();
    most();
    triangles();
    Check.end();
  }

  private static void nobody() {
    RingSign x = new RingSign();
    Check.due("holds", x.holds(), 1);
    Check.due("pairings", x.pairings(), 1);
    Check.due("sure", x.sure(), 0);
    Check.due("most", x.most(), 0);
    Check.due("triangle", x.triangle(), -1);
    // Each as the first call behind a text.
    Check.due("breaking at once", Check.of(NO_WAY).breaking(), 1);
    Check.due("breaks at once", Check.of(NO_WAY).breaks(), 3);
    Check.due("partner at once", Check.of(TWO_WAYS).partner(1, 0), 3);
    Check.due("can at once", Check.of(TWO_WAYS).can(0), 12);
    Check.due("sure at once", Check.of(TWO_WAYS).sure(), 0);
    Check.due("triangle at once", Check.of(NO_WAY).triangle(), 12);
    Check.due("most at once", Check.of(NO_WAY).most(), 1);
    Check.due("matches at once", Check.of(TWO_WAYS).person(0, 6), 12);
    RingSign one = Check.of("society;person 0 0 0;");
    Check.due("one holds", one.holds(), 1);
    Check.due("one's pairings", one.pairings(), 1);
    Check.due("one is with nobody", one.partner(0, 0), -1);
    Check.due("one is sure", one.sure(), 1);
    Check.due("one can be with nobody", one.can(0), 0);
  }

  private static void holding() {
    RingSign x = Check.of("society;person 0 0 0;person 0 0 0;person 0 0 0;person 0 0 0;likes : 9 - whom;");
    Check.due("all break it", x.breaks(), 6);
    Check.due("the first", x.breaking(), 1);
    Check.due("doesn't hold", x.holds(), 0);
    x.engage(0, 2);
    // 0 and 1 break it; 1 and 2 don't, since 2 likes 0 better; 1 and 3 break it.
    Check.due("breaks", x.breaks(), 2);
    Check.due("breaking", x.breaking(), 1);
    x.engage(1, 3);
    Check.due("breaks", x.breaks(), 1);
    x.engage(0, 1);
    Check.due("breaking", x.breaking(), 23);
    x.engage(2, 3);
    Check.due("holds", x.holds(), 1);
    Check.due("breaks", x.breaks(), 0);
    Check.due("breaking", x.breaking(), -1);
    RingSign y = Check.of("society;person 7 7 7;person 7 7 7;engaged 0 1;fits : cross = 0;");
    Check.due("they don't match", y.holds(), 0);
    Check.due("yet none break it", y.breaks(), 0);
    y.part(0);
    Check.due("nobody with anybody holds", y.holds(), 1);
  }

  private static void twoWays() {
    RingSign x = Check.of(TWO_WAYS);
    Check.due("pairings", x.pairings(), 2);
    int[][] due = {{2, 3, 0, 1}, {3, 2, 1, 0}};
    for (int k = 0; k < 2; k++)
      for (int p = 0; p < 4; p++) Check.due("partner(" + k + ", " + p + ")", x.partner(k, p), due[k][p]);
    Check.due("not so many", x.partner(2, 0), -1);
    Check.due("not so many", x.partner(Integer.MAX_VALUE, 0), -1);
    Check.due("k", x.partner(-1, 0), -3);
    Check.due("no such one, ahead of k", x.partner(-1, 4), -2);
    Check.due("no such one", x.partner(0, -1), -2);
    Check.due("can", x.can(0), 12);
    Check.due("can", x.can(3), 3);
    Check.due("no such one", x.can(4), -2);
    Check.due("no such one", x.can(-1), -2);
    Check.due("sure", x.sure(), 0);
    Check.due("most", x.most(), 2);
    Check.due("holds", x.holds(), 0);
    x.engage(0, 2);
    x.engage(1, 3);
    Check.due("holds", x.holds(), 1);
    x.part(0);
    x.part(1);
    x.engage(0, 3);
    x.engage(1, 2);
    Check.due("holds", x.holds(), 1);
    x.mark(2, 0);
    // Now 2 likes 0 better than 1, so they are with each other.
    Check.due("pairings", x.pairings(), 1);
    Check.due("partner", x.partner(0, 0), 2);
    Check.due("sure", x.sure(), 15);
    Check.due("can", x.can(0), 4);
    Check.due("holds", x.holds(), 0);
    Check.due("breaking", x.breaking(), 2);
    x.undo(1);
    Check.due("pairings after undoing", x.pairings(), 2);
  }

  private static void noWay() {
    RingSign x = Check.of(NO_WAY);
    Check.due("pairings", x.pairings(), 0);
    Check.due("partner", x.partner(0, 0), -1);
    Check.due("can", x.can(0), 0);
    Check.due("sure, if none holds", x.sure(), 7);
    Check.due("most", x.most(), 1);
    Check.due("triangle", x.triangle(), 12);
    Check.due("breaks", x.breaks(), 3);
  }

  private static void order() {
    RingSign x = Check.of("society;person 0 0 0;person 0 0 0;person 0 0 0;person 0 0 0;likes : 0 - 1;");
    Check.due("nobody would", x.pairings(), 1);
    Check.due("with nobody", x.partner(0, 3), -1);
    Check.due("sure", x.sure(), 15);
    Check.due("holds", x.holds(), 1);
    Check.due("most", x.most(), 0);
    Check.due("matches", x.person(0, 6), 0);
    // As in TWO_WAYS, with the full ones 0 and 2, the bare ones 1 and 3.
    RingSign y = Check.of("society;person 7 7 7 mark 3;person 0 0 0 mark 0;person 7 7 7 mark 1;person 0 0 0 mark 2;fits : cross = 0;" + LIKES);
    Check.due("pairings", y.pairings(), 2);
    Check.due("lesser one first", y.partner(0, 0), 1);
    Check.due("then the greater one", y.partner(1, 0), 3);
  }

  private static void most() {
    RingSign x = Check.of("society;person 7 7 7;person 7 7 7;person 7 7 7;person 0 0 0;person 0 0 0;fits : cross = 0;likes : 1;");
    // Full ones match the bare ones alone; bare ones match each other, too.
    Check.due("most", x.most(), 2);
    Check.due("whom 3 matches", x.person(3, 6), 23);
    RingSign y = Check.of("society;person 0 0 0;person 0 0 0;person 0 0 0;person 0 0 0;person 0 0 0;person 0 0 0;person 0 0 0;");
    Check.due("most of seven", y.most(), 3);
    Check.due("pairings of seven", y.pairings(), 1);
    Check.due("the last is alone", y.partner(0, 6), -1);
  }

  private static void triangles() {
    // Backwards: 0 likes 2 best, 2 likes 1, 1 likes 0.
    RingSign x = Check.of("society;person 0 0 0 mark 2;person 0 0 0 mark 0;person 0 0 0 mark 1;" + LIKES);
    Check.due("triangle", x.triangle(), 21);
    RingSign y = Check.of("society;person 0 0 0 mark 0;person 0 0 0 mark 2;person 0 0 0 mark 3;person 0 0 0 mark 1;" + LIKES);
    Check.due("a is the least", y.triangle(), 123);
    RingSign z = Check.of(NO_WAY.replace("9 -", "8 - (who - 1) * (who - 1) * (who - 2) * (who - 2) -"));
    // 0 likes 2 no more: 8 - 4 - 1 is above 0 still, so all match.
    Check.due("triangle", z.triangle(), 12);
    RingSign none = Check.of("society;person 0 0 0;person 0 0 0;person 0 0 0;");
    Check.due("none", none.triangle(), -1);
    RingSign apart = Check.of(NO_WAY.replace("person 0 0 0", "person 7 7 7") + "fits : cross = 0;");
    Check.due("none match", apart.triangle(), -1);
  }
}
