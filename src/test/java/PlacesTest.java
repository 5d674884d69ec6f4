public final class PlacesTest {
  public static void main(String[] args) {
    Due due = new Due("PlacesTest");
    ComplaintBooks x = new ComplaintBooks();
    due.is("status(0)", x.status(0), 1);
    due.close();
  }
}
