import java.util.NoSuchElementException;
import java.util.Random;

/** Calls with any arguments in any state: nothing is thrown but by rests. */
public final class WildTest {
  private static final int[] EDGES = {Integer.MIN_VALUE, Integer.MIN_VALUE + 1, -1001, -1000, -2, -1, 0, 1, 2, 6, 7, 11, 12, 13,
    31, 32, 40, 41, 99, 100, 9999, 10000, Integer.MAX_VALUE - 1, Integer.MAX_VALUE};
  private static final String GRATE = "ember a coal at 0 heat 20 fuel 3 ; ember b stick at 5 heat 9 fuel 9 ; ember c slack at 9 heat 2 fuel 4 ; "
      + "ember d iron at 10 heat 20 fuel 1 ; ember e coal at 11 heat 6 fuel 20 ; draught 1 4 ; catches 4 ; "
      + "warms glow * 9999 * ( near < 2 ) - left * 9999 * 9999 + air ;";
  // Some of them are several: an object is good for 512 in all.
  private static final int CALLS = 300;

  private final Random random;
  private final EmberLand x = new EmberLand();

  private WildTest(long seed) {
    random = new Random(seed);
  }

  public static void main(String[] args) {
    int bad = 0;
    for (int seed = 0; seed < 300; seed++) {
      WildTest test = new WildTest(seed);
      int call = -1;
      int which = -1;
      try {
        if (seed % 3 > 0) {
          Check.grate(test.x, GRATE);
        }
        for (call = 0; call < CALLS; call++) {
          which = test.random.nextInt(41);
          test.call(which);
        }
      } catch (RuntimeException thrown) {
        bad++;
        System.out.println("seed " + seed + ", call " + call + " of kind " + which + " threw " + thrown);
      }
    }
    System.out.println("300 wild runs, " + bad + " that threw");
    if (bad > 0) {
      System.exit(1);
    }
  }

  private int any() {
    return random.nextInt(3) == 0 ? random.nextInt() : random.nextInt(2) == 0 ? EDGES[random.nextInt(EDGES.length)] : random.nextInt(8);
  }

  private long bytes() {
    long bytes = 0;
    for (int i = 0; i < 8; i++) {
      bytes = bytes << 8 | random.nextInt(random.nextInt(9) == 0 ? 256 : 127);
    }
    return bytes;
  }

  private void call(int which) {
    switch (which) {
      case 0: x.feed(bytes(), bytes(), bytes()); break;
      case 1: tellGrate(); break;
      case 2: x.evening(); break;
      case 3: x.ember(any(), any()); break;
      case 4: x.cell(any()); break;
      case 5: x.hour(); break;
      case 6: x.poke(any()); break;
      case 7: x.tongs(any(), any()); break;
      case 8: x.fuel(any(), any()); break;
      case 9: x.bank(); break;
      case 10: x.undo(); break;
      case 11: x.judged(any()); break;
      case 12: x.out(any()); break;
      case 13: x.lasts(); break;
      case 14: x.last(); break;
      case 15: x.peak(); break;
      case 16: x.age(); break;
      case 17: x.move(any()); break;
      case 18: x.banks(); break;
      case 19: x.stir(any()); break;
      case 20: x.kindle(); break;
      case 21: x.save(any()); break;
      case 22: x.tell(any(), any(), random.nextBoolean()); break;
      case 23: x.which(); break;
      case 24: x.look(any()); break;
      case 25: x.chance(any(), any(), any()); break;
      case 26: x.touch(any()); break;
      case 27: x.hall(any()); break;
      case 28: x.halls(); break;
      case 29: x.tower(); break;
      case 30: x.alight(any()); break;
      case 31: x.caught(any()); break;
      case 32: x.ash(any()); break;
      case 33: x.falls(); break;
      case 34: x.spare(any()); break;
      case 35: x.lone(); break;
      case 36: x.warmest(); break;
      case 37: rests(); break;
      case 38: x.winters(any(), any(), any()); break;
      case 39: x.mark(any(), random.nextBoolean()); break;
      default: x.count(any());
    }
  }

  private void tellGrate() {
    if (random.nextInt(3) > 0) {
      x.grate();
      Check.feed(x, GRATE);
    }
    x.grate();
  }

  private void rests() {
    try {
      x.rests(any(), any(), any(), any());
    } catch (NoSuchElementException allowed) {
      return;
    }
  }
}
