/** The sentences of the document that name a boundary case, each told with what is asked of it. */
public final class BoundariesTest {
  public static void main(String[] args) {
    Ranges.check();
    Refusals.check();
    Terms.check();
    Answers.check();
    Document.checkAllTested();
    Checks.finish("BoundariesTest");
  }
}
