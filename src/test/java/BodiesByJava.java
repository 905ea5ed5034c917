import java.util.ArrayList;
import java.util.List;

/** The document's kinds told as Java's own classes: what GladSide.act() is measured by. */
class BodiesByJava implements OpensByJava, TellsByJava {
  final List<Integer> ran = new ArrayList<>();
  final int n;

  BodiesByJava(int n) {
    this.n = n;
  }

  static BodiesByJava ofKind(int kind, int n) {
    switch (kind) {
      case 0: return new BodiesByJava(n);
      case 1: return new Canary(n);
      case 2: return new Wedding(n);
      case 3: return new Widow(n);
      case 4: return new Ship(n);
      case 5: return new Simple(n);
      case 6: return new Spring(n);
      default: return new Chair(n);
    }
  }

  int perform(int act, int x) {
    ran.clear();
    switch (act) {
      case 0: return opens(x);
      case 1: return smells(x);
      case 2: return votes(x);
      default: return tells(x);
    }
  }

  public int begins(int body) {
    ran.add(body);
    return body;
  }

  public int number() {
    return n;
  }

  public int smells(int x) {
    begins(10);
    return opens(x) * 2;
  }

  public int votes(int x) {
    begins(11);
    return x ^ n;
  }

  public int opens(int x) {
    return OpensByJava.super.opens(x);
  }

  public int tells(int x) {
    return TellsByJava.super.tells(x);
  }

  static class Canary extends BodiesByJava {
    Canary(int n) {
      super(n);
    }

    public int opens(int x) {
      begins(20);
      return super.opens(x) + 3;
    }
  }

  static class Wedding extends BodiesByJava {
    Wedding(int n) {
      super(n);
    }

    public int smells(int x) {
      begins(30);
      return -super.smells(x);
    }
  }

  static class Widow extends Wedding {
    Widow(int n) {
      super(n);
    }

    public int votes(int x) {
      begins(40);
      return super.votes(x) * 3;
    }

    public int smells(int x) {
      begins(41);
      return super.smells(x + 1);
    }
  }

  static class Ship extends Canary {
    Ship(int n) {
      super(n);
    }

    public int tells(int x) {
      begins(50);
      return super.tells(x) ^ 5;
    }
  }

  static class Simple extends Widow {
    Simple(int n) {
      super(n);
    }

    public int votes(int x) {
      begins(60);
      return super.votes(x) - opens(2);
    }

    public int tells(int x) {
      begins(61);
      return super.tells(x) + 1;
    }
  }

  static class Spring extends BodiesByJava {
    Spring(int n) {
      super(n);
    }

    public int opens(int x) {
      begins(70);
      return super.opens(x) * 2;
    }
  }

  static class Chair extends Spring {
    Chair(int n) {
      super(n);
    }

    public int smells(int x) {
      begins(80);
      return super.smells(x) + votes(2);
    }

    public int opens(int x) {
      begins(81);
      return super.opens(x) - 1;
    }
  }
}

interface OpensByJava {
  int begins(int body);

  int number();

  default int opens(int x) {
    begins(1);
    return x + number();
  }
}

interface TellsByJava {
  int begins(int body);

  int smells(int x);

  int votes(int x);

  default int tells(int x) {
    begins(2);
    return smells(x) - votes(1);
  }
}
