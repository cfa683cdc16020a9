/** The example of README.md; a line there that tells an answer has its line here. */
public final class ReadmeTest {
    public static void main(String[] args) {
        Due due = new Due();
        OneCubeEach x = new OneCubeEach();
        int one = x.customer(0, 0, 1);
        due.be("customer(0, 0, 1)", one, 0);
        due.be("set(7, one, 10)", x.set(7, one, 10), 20);
        due.be("told(one, 10)", x.told(one, 10), 1);
        due.be("board(0)", x.board(0), 4000);
        due.be("cubes(0)", x.cubes(0), 1);
        due.be("cubes(1)", x.cubes(1), 6000);
        for (char c : "eats 3; odds 6 - girl; spends 25 + number;".toCharArray()) {
            x.feed(c);
        }
        due.be("force(text())", x.force(x.text()), 0);
        due.be("count(5), the number of the text", x.count(5), 1);
        due.be("fair(0)", x.fair(0), 5);
        due.be("fair(1)", x.fair(1), 1);
        due.be("film(2, one, 12)", x.film(2, one, 12), 12);
        due.be("tells(2, one, 1)", x.tells(2, one, 1), 5);
        due.end();
    }
}
