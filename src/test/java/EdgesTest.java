import java.io.IOException;
import java.util.List;

/** Every test of an edge, and that no sentence of the document is without one. */
public final class EdgesTest {
  public static void main(String[] args) throws IOException {
    Sentences document = new Sentences();
    List<Edges> all = List.of(new EdgesOfPlaces(document), new EdgesOfShelves(document),
        new EdgesOfAsks(document), new EdgesOfTracing(document), new EdgesOfRules(document), new EdgesOfMaking(document),
        new EdgesOfKnowing(document), new EdgesOfDeputies(document), new EdgesOfClashes(document),
        new EdgesOfRefusals(document));
    int answers = 0;
    int wrong = 0;
    for (Edges edges : all) {
      edges.run();
      answers += edges.answers();
      wrong += edges.wrong();
    }
    for (String left : document.left()) {
      wrong++;
      System.out.println("EdgesTest: no test is for " + left);
    }
    System.out.println("EdgesTest: " + answers + " answers of " + document.promises()
        + " promises and the terms, " + wrong + " wrong");
    if (wrong != 0 || document.promises() == 0) {
      System.exit(1);
    }
  }
}
