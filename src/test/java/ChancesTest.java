/** Promises 38 and 39: how likely one is with somebody if the shy stay at home. */
public final class ChancesTest {
  public static void main(String[] args) {
    RingSign x = Check.of("society;person 0 0 0 shy 5;person 0 0 0 shy 5;");
    chance(x, 0, 1, 4, 1);
    chance(x, 1, 1, 4, 0);
    codes(x);
    chance(Check.of("society;person 0 0 0 shy 3;person 0 0 0;"), 1, 7, 10, 0);
    chance(Check.of("society;person 0 0 0 shy 10;person 0 0 0;"), 1, 0, 1, -1);
    chance(Check.of("society;person 0 0 0 shy 10;person 0 0 0;"), 0, 0, 1, -1);
    chance(Check.of("society;person 0 0 0;person 0 0 0;"), 0, 1, 1, 1);
    chance(Check.of("society;person 0 0 0;"), 0, 0, 1, -1);
    Check.due("likeliest at once", Check.of("society;person 0 0 0 shy 9;person 0 0 0 shy 9;").likeliest(0), 1);
    chance(Check.of("society;person 0 0 0 shy 9;person 0 0 0 shy 9;"), 1, 1, 100, 0);
    three();
    triangle();
    all();
    after();
    Check.end();
  }

  private static void chance(RingSign x, int p, int above, int below, int likeliest) {
    Check.due("above", x.chance(p, 0), above);
    Check.due("below", x.chance(p, 1), below);
    Check.due("likeliest", x.likeliest(p), likeliest);
  }

  private static void codes(RingSign x) {
    Check.due("no such one", x.chance(2, 0), -2);
    Check.due("no such one", x.chance(-1, 0), -2);
    Check.due("what", x.chance(0, 2), -2);
    Check.due("what", x.chance(0, -1), -2);
    Check.due("no such one", x.likeliest(2), -2);
    Check.due("no such one", x.likeliest(-1), -2);
    Check.due("no people", new RingSign().chance(0, 0), -2);
  }

  private static void three() {
    // If 0 is there it is with 1; else 1 is with 2.
    RingSign x = Check.of("society;person 0 0 0 shy 5;person 0 0 0;person 0 0 0;");
    chance(x, 0, 1, 2, 1);
    chance(x, 1, 1, 1, 0);
    chance(x, 2, 1, 2, 1);
    RingSign y = Check.of("society;person 0 0 0 shy 6;person 0 0 0;person 0 0 0;");
    chance(y, 0, 2, 5, 1);
    chance(y, 1, 1, 1, 2);
    chance(y, 2, 3, 5, 1);
    // Who is with whom now tells nothing.
    y.engage(1, 2);
    chance(y, 2, 3, 5, 1);
    // 0 with 1: 4/10 by 3/10; 0 with 2: 4/10 by 7/10; 1 with 2: 6/10 by 3/10.
    RingSign z = Check.of("society;person 0 0 0 shy 6;person 0 0 0 shy 7;person 0 0 0;");
    chance(z, 0, 2, 5, 2);
    chance(z, 1, 3, 10, 2);
    chance(z, 2, 23, 50, 0);
  }

  private static void triangle() {
    String text = "society;person 0 0 0 mark 1;person 0 0 0 mark 2;person 0 0 0 mark 0;likes : 9 - (whom - mark) * (whom - mark);";
    RingSign x = Check.of(text);
    chance(x, 0, 0, 1, -1);
    // When 0 stays at home, 1 and 2 come to rest.
    RingSign y = Check.of(text.replaceFirst("mark 1", "mark 1 shy 2"));
    chance(y, 0, 0, 1, -1);
    chance(y, 1, 1, 5, 2);
    chance(y, 2, 1, 5, 1);
  }

  private static void all() {
    StringBuilder t = new StringBuilder("society;");
    for (int p = 0; p < 7; p++) t.append("person 0 0 0 shy 1;");
    RingSign x = Check.of(t.toString());
    // 0 is with nobody just if it stays at home or is alone there: 9/10 less 9/10 of 1 in 1,000,000.
    Check.due("above", x.chance(0, 0), 8999991);
    Check.due("below", x.chance(0, 1), 10000000);
    Check.due("likeliest", x.likeliest(0), 1);
    Check.due("of the last", x.likeliest(6), 5);
  }

  private static void after() {
    RingSign x = Check.of("society;person 7 7 7 shy 5;person 7 7 7;fits : cross = 0;");
    chance(x, 0, 0, 1, -1);
    x.stroke(0, 0);
    chance(x, 0, 1, 2, 1);
    Check.due("pairings are of all still", x.pairings(), 1);
    Check.due("partner", x.partner(0, 0), 1);
    x.undo(1);
    chance(x, 1, 0, 1, -1);
    x.image(0);
    Check.tell(x, "society;person 0 0 0;person 0 0 0;");
    chance(x, 1, 1, 1, 0);
    x.restore(0);
    chance(x, 1, 0, 1, -1);
  }
}
