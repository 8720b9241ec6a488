import java.io.IOException;

/** Runs every test of the project; ends with exit code 1 if one fails. */
public final class AllTests {
  private AllTests() {}

  public static void main(String[] args) throws IOException {
    FaceTest.run();
    LanguageTest.run();
    BoundariesTest.run();
    ReadmeTest.run();
    TermsGraphTest.run();
    TermsBlocksTest.run();
    TermsPowerTest.run();
    TermsHandTest.run();
    TermsWaysTest.run();
    TermsRefusalTest.run();
    Promise01Test.run();
    Promise02Test.run();
    Promise03Test.run();
    Promise04Test.run();
    Promise05Test.run();
    Promise06Test.run();
    Promise07Test.run();
    Promise08Test.run();
    Promise09Test.run();
    Promise10Test.run();
    Promise11Test.run();
    Promise12Test.run();
    Promise13Test.run();
    Promise14Test.run();
    Promise15Test.run();
    Promise16Test.run();
    Promise17Test.run();
    ModelTest.run();
    if (!Checks.report()) {
      System.exit(1);
    }
  }
}
