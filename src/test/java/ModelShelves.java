/** Shelves that hold real Java arrays, or a body's number, or nothing. */
final class ModelShelves {
  final Object[] shelves = new Object[6];

  static boolean isShelf(long shelf) {
    return shelf >= 0 && shelf < 6;
  }

  boolean isRow(int shelf) {
    return shelves[shelf] != null && shelves[shelf].getClass().isArray();
  }

  int length(int shelf) {
    return java.lang.reflect.Array.getLength(shelves[shelf]);
  }

  /** 0, or why there is no row of bytes here. */
  int refuseBytes(int shelf) {
    if (!isShelf(shelf)) return -1;
    if (shelves[shelf] == null) return -11;
    return shelves[shelf] instanceof byte[] ? 0 : -12;
  }

  byte[] bytes(int shelf) {
    return (byte[]) shelves[shelf];
  }

  int row(int shelf, int sort, int n) {
    if (!isShelf(shelf) || sort < 0 || sort > 4 || n > 60) return -1;
    if (n < 0) return -14;
    Class<?>[] sorts = {byte.class, short.class, int.class, long.class, boolean.class};
    shelves[shelf] = java.lang.reflect.Array.newInstance(sorts[sort], n);
    return 1;
  }

  int refusePlace(int shelf, int i) {
    if (!isShelf(shelf)) return -1;
    if (shelves[shelf] == null) return -11;
    if (!isRow(shelf)) return -12;
    return i < 0 || i >= length(shelf) ? -13 : 0;
  }

  int put(int shelf, int i, long v) {
    int refusal = refusePlace(shelf, i);
    if (refusal != 0) return refusal;
    Object row = shelves[shelf];
    if (row instanceof byte[]) ((byte[]) row)[i] = (byte) v;
    else if (row instanceof short[]) ((short[]) row)[i] = (short) v;
    else if (row instanceof int[]) ((int[]) row)[i] = (int) v;
    else if (row instanceof long[]) ((long[]) row)[i] = v;
    else ((boolean[]) row)[i] = v != 0;
    return 1;
  }

  long element(int shelf, int i) {
    if (refusePlace(shelf, i) != 0) return Long.MIN_VALUE;
    Object row = shelves[shelf];
    if (row instanceof boolean[]) return ((boolean[]) row)[i] ? 1 : 0;
    return java.lang.reflect.Array.getLong(row, i);
  }

  int shift(int shelf, int i, int other, int j, int n) {
    if (!isShelf(shelf) || !isShelf(other)) return -1;
    if (shelves[shelf] == null || shelves[other] == null) return -11;
    if (!isRow(shelf) || shelves[shelf].getClass() != shelves[other].getClass()) return -12;
    try {
      System.arraycopy(shelves[shelf], i, shelves[other], j, n);
    } catch (ArrayIndexOutOfBoundsException noPlace) {
      return -13;
    }
    return n;
  }
}
