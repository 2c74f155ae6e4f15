/** Promises 35 to 37: who wins if two add signs to one ring by turns. */
public final class TurnsTest {
  public static void main(String[] args) {
    codes();
    bare();
    soonAndLate();
    setsThatDoNotFit();
    Check.end();
  }

  private static void game(RingSign x, int set, int wins, int best, int lasts) {
    Check.due("wins(" + set + ")", x.wins(set), wins);
    Check.due("best(" + set + ")", x.best(set), best);
    Check.due("lasts(" + set + ")", x.lasts(set), lasts);
  }

  private static void codes() {
    game(new RingSign(), 0, 0, -1, 0);
    game(new RingSign(), 1, -3, -3, -3);
    RingSign x = Check.of("society;person 0 0 0;person 0 0 0;person 0 0 0;");
    game(x, 8, -3, -3, -3);
    game(x, -1, -3, -3, -3);
    game(x, Integer.MIN_VALUE, -3, -3, -3);
    game(x, 15, -3, -3, -3);
    game(x, 7, 0, -1, 0);
  }

  private static void bare() {
    RingSign x = Check.of("society;person 0 0 0;person 0 0 0;person 0 0 0;person 0 0 0;person 0 0 0;person 0 0 0;person 0 0 0;");
    game(x, 0, 0, -1, 4);
    game(x, 1, 1, 1, 3);
    game(x, 64, 1, 0, 3);
    game(x, 3, 0, -1, 2);
    game(x, 7, 1, 3, 1);
    game(x, 11, 1, 2, 1);
    game(x, 15, 0, -1, 0);
    game(x, 31, 0, -1, 0);
    game(x, 127, 0, -1, 0);
  }

  private static void soonAndLate() {
    RingSign x = Check.of("society;person 4 0 0;person 4 0 0;person 4 0 0;person 7 0 0;fits : ink < 4;");
    // The three cells of 3 end it at once; the small ones go on to three.
    game(x, 0, 1, 0, 1);
    game(x, 8, 0, -1, 0);
    game(x, 1, 0, -1, 2);
    game(x, 3, 1, 2, 1);
    // By 0 it wins too, but later: 0 is the first, 3 the soonest.
    Check.due("best is the first that wins", x.best(0), 0);
    Check.due("lasts is the soonest", x.lasts(0), 1);
    RingSign late = Check.of("society;person 4 0 0;person 0 0 0;person 7 4 0;person 7 7 0;person 4 0 0;fits : ink < 7;");
    // Who begins loses: by 3 (six cells) at the next turn, by a small one not before the fourth.
    game(late, 8, 1, 1, 1);
    game(late, 0, 0, -1, 4);
    Check.due("lasts at once", Check.of("society;person 0 0 0;person 0 0 0;").lasts(1), 1);
    Check.due("wins at once", Check.of("society;person 0 0 0;person 0 0 0;").wins(1), 1);
    Check.due("best at once", Check.of("society;person 0 0 0;person 0 0 0;").best(1), 1);
    RingSign y = Check.of("society;person 4 0 0;person 6 0 0;person 4 0 0;person 4 0 0;fits : ink < 5;");
    // Behind 1 (two cells) just two small ones are added.
    game(y, 2, 0, -1, 2);
    RingSign z = Check.of("society;person 4 0 0;person 6 0 0;person 4 0 0;fits : ink < 4;");
    // 1 with one more is all; 0 and 2 is all, too: each loses by whatever it begins with.
    game(z, 0, 0, -1, 2);
    game(z, 2, 1, 0, 1);
  }

  private static void setsThatDoNotFit() {
    // Only three fit, so from none nobody can begin; from two one can add a third.
    RingSign x = Check.of("society;person 7 7 7;person 7 7 7;person 7 7 7;person 7 7 7;fits : many = 3;");
    game(x, 0, 0, -1, 0);
    game(x, 1, 0, -1, 0);
    game(x, 5, 1, 1, 1);
    game(x, 7, 0, -1, 0);
    x.stroke(0, 0);
    game(x, 12, 1, 0, 1);
    RingSign y = Check.of("society;person 7 7 7;person 7 7 7;person 7 7 7;");
    game(y, 0, 0, -1, 2);
    y.stroke(0, 0);
    y.stroke(0, 1);
    y.stroke(0, 2);
    y.stroke(0, 3);
    y.stroke(0, 4);
    y.stroke(0, 5);
    y.stroke(0, 6);
    y.stroke(0, 7);
    y.stroke(0, 8);
    Check.due("a bare one makes three", y.lasts(0), 3);
    Check.due("so the first wins", y.wins(0), 1);
    y.undo(9);
    Check.due("as it was", y.lasts(0), 2);
  }
}
