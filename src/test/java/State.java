import java.util.ArrayList;
import java.util.List;

/** All that a head keeps, as far as its calls tell it. */
final class State {
    private State() {
    }

    static List<Integer> of(DividingHead head) {
        List<Integer> all = new ArrayList<>();
        for (int what = 0; what < 5; what++) {
            all.add(head.told(what));
        }
        for (int circle = 0; circle <= 8; circle++) {
            all.add(head.holes(circle));
        }
        for (int gear = 0; gear <= 10; gear++) {
            all.add(head.teeth(gear));
        }
        for (int eighth = 0; eighth < 8; eighth++) {
            // An ERROR is told only by the call that sets it, so it is put back at once.
            int error = head.error(eighth, 0);
            head.error(eighth, error);
            all.add(error);
        }
        return all;
    }
}
