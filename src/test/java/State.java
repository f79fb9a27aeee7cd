/** All that can be read of an object, as text, to show that a call changed nothing or only its part. */
final class State {
  private State() {}

  static String of(WindowFrames w) {
    return spec(w) + " " + rows(w) + " " + results(w) + " " + order(w);
  }

  static String spec(WindowFrames w) {
    StringBuilder text = new StringBuilder("spec");
    for (int field = WindowFrames.SPEC_DIRECTION; field <= WindowFrames.SPEC_LAST_FUNC; field++) {
      text.append(' ').append(w.specField(field));
    }
    return text.toString();
  }

  static String rows(WindowFrames w) {
    StringBuilder text = new StringBuilder("rows " + w.rowCount() + "/" + w.capacity());
    for (int row = 0; row < w.rowCount(); row++) {
      text.append(" (");
      for (int field = WindowFrames.FIELD_PART; field <= WindowFrames.FIELD_MASK; field++) {
        text.append(field == 0 ? "" : " ").append(w.rowField(row, field));
      }
      text.append(')');
    }
    return text.toString();
  }

  /** "-" stands for a NULL result; a NULL whose result() is not 0 shows as "-" and that number. */
  static String results(WindowFrames w) {
    StringBuilder text = new StringBuilder("results");
    for (int row = 0; row < w.rowCount(); row++) {
      text.append(' ');
      boolean isNull = w.resultIsNull(row);
      long number = w.result(row);
      text.append(isNull ? "-" : "").append(isNull && number == 0 ? "" : String.valueOf(number));
    }
    return text.toString();
  }

  static String order(WindowFrames w) {
    StringBuilder text = new StringBuilder("order");
    for (int pos = 0; pos < w.rowCount(); pos++) {
      text.append(' ').append(w.rowAt(pos));
    }
    return text.toString();
  }
}
