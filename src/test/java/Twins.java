import java.util.ArrayList;
import java.util.Arrays;
import java.util.List;

/**
 * Two objects with the same past, of which one gets a call that must change nothing: then both are
 * asked for everything, the history, the slots and the input buffer too, which asking uses up.
 */
final class Twins {
    private static final int MORE_THAN_HISTORY = 12;

    interface Maker {
        BikeShare make();
    }

    interface Deed {
        long on(BikeShare x);
    }

    private Twins() {
    }

    static void refused(String what, Class<?> kind, Maker maker, Deed deed) {
        BikeShare x = maker.make();
        String got = "nothing";
        try {
            deed.on(x);
        } catch (RuntimeException e) {
            got = e.getClass().getSimpleName();
        }
        Check.due(what + " threw " + got + ", due is " + kind.getSimpleName(),
                got.equals(kind.getSimpleName()), true);
        Check.due(what + " changes nothing", usedUp(x).equals(usedUp(maker.make())), true);
    }

    static void unchanged(String what, Maker maker, Deed deed, long answer) {
        BikeShare x = maker.make();
        Check.due(what, deed.on(x), answer);
        Check.due(what + " changes nothing", usedUp(x).equals(usedUp(maker.make())), true);
    }

    static List<List<Integer>> usedUp(BikeShare x) {
        List<List<Integer>> all = new ArrayList<>();
        all.add(asked(x));
        for (int i = 0; i < MORE_THAN_HISTORY; i++) {
            all.add(List.of(x.undo()));
            all.add(asked(x));
        }
        for (int slot = 0; slot < 2; slot++) {
            all.add(List.of(x.restoreSnapshot(slot) ? 1 : 0));
            all.add(asked(x));
        }
        int filled = x.append(0x20202020, 0x20202020, 0x20202020, 0x20202020, 0x20202020);
        all.add(List.of(filled));
        all.add(List.of(x.parse(Math.max(0, filled))));
        all.add(asked(x));
        return all;
    }

    private static List<Integer> asked(BikeShare x) {
        List<Integer> all = Check.everything(x);
        for (int truck = 0; truck < x.size(1); truck++) {
            if (x.truck(truck, 0) != BikeShare.NONE) {
                all.add(x.tourMinutes(truck));
                Arrays.stream(Check.tour(x, truck)).forEach(all::add);
            }
        }
        return all;
    }
}
