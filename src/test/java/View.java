import java.util.ArrayList;
import java.util.List;

/**
 * All that can be seen of an object. Looking changes it, so what is held side by side are the views of two objects
 * that were called alike but for one call.
 */
final class View {
    private View() {
    }

    static List<String> of(NumberStreams x) {
        List<String> seen = new ArrayList<>();
        for (int record = 0; record < 6; record++) {
            seen.add("length(" + record + ") is " + x.length(record));
            for (int i = 0; i < 6; i++) {
                seen.add("word(" + record + ", " + i + ") is " + x.word(record, i));
            }
        }
        for (int d = 0; d < 6; d++) {
            seen.add("coordinate(" + d + ") is " + x.coordinate(d));
        }
        seen.add("advance() is " + x.advance());
        for (int place = 0; place < 16; place++) {
            seen.add("card(" + place + ") is " + x.card(place));
        }
        for (int slot = 0; slot < 8; slot++) {
            for (int i = 0; i < 3; i++) {
                seen.add("next(" + slot + ") is " + x.next(slot));
            }
        }
        int made = x.make(1, 77, 78);
        seen.add("make(1, 77, 78) is " + made);
        for (int i = 0; i < 60; i++) {
            seen.add("pick is " + x.pick(Math.max(made, 0)));
        }
        seen.add("save is " + x.save(Math.max(made, 0)));
        return seen;
    }
}
