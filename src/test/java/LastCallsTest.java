import java.util.Random;

/** "What holds at the first calls holds at the last": promises 2 to 37 up to an object's 512th call. */
public final class LastCallsTest {
  private static final Sentences s = new Sentences("LastCallsTest");
  private static final int TRIES = 40;

  public static void main(String[] args) {
    s.says("An object is used for at most 512 calls after it has been made", LastCallsTest::theLastCall);
    s.says("nothing about an object after its 512th call", LastCallsTest::stateAtTheLastCalls);
    s.says("what later calls answer is free.", LastCallsTest::oneCallOverAndOver);
    s.says("8 the number of the latest FINDING", LastCallsTest::findingsOverAndOver);
    s.end();
  }

  /** Each call as the 512th, behind all kinds of others, answers as it does in a young land that is like it. */
  private static void theLastCall() {
    Random random = new Random(512);
    for (Calls call : Calls.ALL) {
      for (int i = 0; i < TRIES; i++) {
        int[] args = call.someArguments(random);
        s.due(Land.old(random, 1), Land.lived().ask(call.name, args), call.name, args);
      }
    }
  }

  /** Each call late in a land's time leaves what it leaves early; what is told of it ends with the 512th call. */
  private static void stateAtTheLastCalls() {
    Random random = new Random(37);
    for (Calls call : Calls.ALL) {
      for (int i = 0; i < TRIES; i++) {
        int[] args = call.someArguments(random);
        Land young = Land.lived().with(call.name, args);
        int behind = young.calls();
        Land counted = Land.lived().with(call.name, args);
        counted.told();
        Land old = Land.old(random, 1 + counted.calls() - behind).with(call.name, args);
        s.likeOnes("an old land behind " + call.told(args), old, young);
      }
    }
  }

  /** One call alone until the 512th, with numbers that change, against the plain model. */
  private static void oneCallOverAndOver() {
    for (Calls call : Calls.ALL) {
      Random random = new Random(call.name.length());
      Land x = Land.fresh();
      PlainModel plain = new PlainModel();
      for (int sheet = 0; sheet < 4; sheet++) {
        both(x, plain, "sheet", sheet, sheet % 3, 48);
        both(x, plain, "write", 7 * sheet, sheet);
      }
      while (x.calls() < Land.MOST_CALLS - 2) both(x, plain, call.name, call.someArguments(random));
      both(x, plain, "count", 8);
      both(x, plain, "digest");
    }
  }

  /** One finding, then the same other one until the 511th call. */
  private static void findingsOverAndOver() {
    again(1, -11, "lose", 3);
    again(1, -11, "put", 3, 0, 0, 0);
    again(1, Integer.MIN_VALUE, "get", 3, 0, 0);
    again(1, -11, "read", 3, 0);
    again(1, -11, "write", 0, 3);
    again(1, -11, "copy", 0, 0, 3, 0, 1);
    again(2, -12, "put", 0, 0, 2, 0);
    again(2, Integer.MIN_VALUE, "get", 0, 0, -1);
    again(2, -12, "copy", 0, 0, 0, 1, 2);
    again(3, -13, "put", 0, 1, 0, 0);
    again(3, Integer.MIN_VALUE, "get", 0, 1, 0);
    again(4, -14, "copy", 0, 0, 1, 0, 1);
    again(5, -15, "sheet", 0, 0, -1);
  }

  private static void again(int finding, long answer, String call, int... args) {
    Land x = Land.fresh().sheet(0, 0, 4, 5).sheet(1, 1, 6);
    if (finding == 5) x.with("lose", 3);
    else x.with("sheet", 2, 2, -1);
    while (x.calls() < Land.MOST_CALLS - 1) s.due(x, answer, call, args);
    s.due(x, finding, "count", 8);
  }

  private static void both(Land x, PlainModel plain, String call, int... args) {
    s.due(x, Calls.named(call).askPlain(plain, args), call, args);
  }
}
