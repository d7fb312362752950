import java.util.function.ToLongFunction;

/** One object that is led through a row of texts and questions, each with the answer that is due. */
final class Case {
    private final Check check;
    private final String name;
    private final SummerPictures x = new SummerPictures();

    Case(Check check, String name, String summer) {
        this.check = check;
        this.name = name;
        Check.summer(x, summer);
    }

    Case due(String call, long want, ToLongFunction<SummerPictures> answer) {
        check.due(name + ": " + call, want, () -> answer.applyAsLong(x));
        return this;
    }

    Case summer(String text, int answer) {
        return due("summer '" + text + "'", answer, o -> Check.summer(o, text));
    }

    Case law(String text) {
        return due("law '" + text + "'", 1, o -> Check.law(o, text));
    }

    Case clocks(String text, int answer) {
        return due("clocks '" + text + "'", answer, o -> Check.clocks(o, text));
    }

    Case work(String steps, int done) {
        return due("work '" + steps + "'", done, o -> Check.work(o, steps));
    }

    Case work(String steps, int done, int refused) {
        return work(steps, done).due("refused by '" + steps + "'", refused, o -> o.told(9));
    }

    Case told(int what, long want) {
        return due("told " + what, want, o -> o.told(what));
    }

    Case picture(int picture, int what, long want) {
        return due("picture " + picture + ", " + what, want, o -> o.picture(picture, what));
    }

    Case undo(int left) {
        return due("undo", left, SummerPictures::undo);
    }

    Case image(int many) {
        return due("image", many, SummerPictures::image);
    }

    Case restore(int left) {
        return due("restore", left, SummerPictures::restore);
    }

    Case kept(int what, long want) {
        return due("kept " + what, want, o -> o.kept(what));
    }

    /** How many calls were refused till now: no such element, a wrong argument. */
    Case refused(long elements, long arguments) {
        return due("status 0", elements, o -> o.status(0)).due("status 1", arguments, o -> o.status(1));
    }

    /** What work changes stands now as it was told by state() then. */
    Case as(String state) {
        return due("all that work changes is\n" + state + "\nnow it is\n" + state(), 1,
                o -> state().equals(state) ? 1 : 0);
    }

    String state() {
        return Whole.state(x);
    }
}
