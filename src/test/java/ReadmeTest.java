/** The calls that README.md shows answer what it says. */
final class ReadmeTest {
    public static void main(String[] args) {
        StoryToll gate = new StoryToll();
        int beginning = gate.make(0, 12, 1);
        int ending = gate.make(2, 20, 4);
        Check.due("follow", 1, gate.follow(beginning, ending));
        int guard = gate.post();
        int traveller = gate.come(0b11);
        Check.due("tell the beginning", 14, gate.tell(traveller, beginning, 0));
        Check.due("best", ending, gate.best(traveller, 0));
        Check.due("most", 20, gate.most(0));
        Check.due("reserve", 9, gate.reserve(traveller, 0));
        Check.due("tell the ending", 22, gate.tell(traveller, ending, 0));
        Check.due("traveller has paid", 31, gate.traveller(traveller, 1));
        Check.due("sleeps", 26, gate.sleeps(guard));
        Check.due("pass", true, gate.pass(traveller));
        Check.noState("pass again", gate, () -> gate.pass(traveller));
        Check.due("mean", true, gate.mean() == 18.0);
        Check.end();
    }
}
