import java.util.ArrayList;
import java.util.Collections;
import java.util.List;

/**
 * Many plans of two to four bearings: each is compared with the first of all moves, sorted by the words of
 * the document, by which a line that is made with its offsets moved FITS (which ModelTest looks at by itself).
 */
public final class PlanTest {
    private static long seed = 20261118;
    private static int wrong = 0;
    private static final int[] found = new int[6];

    public static void main(String[] args) {
        ShaftLine x = new ShaftLine();
        for (int k = 0; k < 1500; k++) {
            if (k % 3 == 0) {
                x = new ShaftLine();
            }
            Case c = new Case();
            c.put(x, new int[c.places.size()]);
            c.compare(x, k);
        }
        for (int moved = -1; moved <= 4; moved++) {
            System.out.println((moved < 0 ? "no plan: " : moved + " moved: ") + found[moved + 1]);
            if (found[moved + 1] == 0) {
                wrong++;
            }
        }
        System.out.println(wrong + " wrong");
        if (wrong != 0) {
            System.exit(1);
        }
    }

    private static int upTo(int most) {
        seed = seed * 6364136223846793005L + 1442695040888963407L;
        return most <= 0 ? 0 : (int) ((seed >>> 33) % (most + 1));
    }

    private static final class Case {
        final List<Integer> places = new ArrayList<>();
        final List<Integer> offsets = new ArrayList<>();
        final int[] weights = new int[13];
        final int[][] rises = new int[4][13];
        final int stiffness = 1 + upTo(19);
        final int states = 1 + upTo(upTo(1) == 0 ? 0 : 14);
        int low = 0;
        int high = 600;

        Case() {
            int many = 2 + Math.min(2, upTo(6));
            List<Integer> all = new ArrayList<>();
            for (int p = 0; p < 13; p++) {
                all.add(p);
                weights[p] = upTo(1) == 0 ? upTo(50) : 0;
                for (int s = 0; s < 4; s++) {
                    rises[s][p] = upTo(3) == 0 ? upTo(2) - 1 : 0;
                }
            }
            for (int b = 0; b < many; b++) {
                places.add(all.remove(upTo(all.size() - 1)));
            }
            Collections.sort(places);
            int base = upTo(9) == 0 ? 50 : upTo(9) == 0 ? -50 : upTo(10) - 5;
            boolean far = upTo(1) == 0;
            int[] moves = new int[many];
            for (int b = 0; b < many; b++) {
                moves[b] = far ? 4 * upTo(1) - 2 : upTo(4) - 2;
                int v = far ? base - moves[b] : base + upTo(4) - 2;
                offsets.add(v > 50 ? 50 : v < -50 ? -50 : v);
            }
            aim(moves);
        }

        /** Bounds that some moves just keep, so that there is a plan and not an easy one; at times none at all. */
        private void aim(int[] moves) {
            if (!may(moves)) {
                return;
            }
            ShaftLine x = new ShaftLine();
            put(x, moves);
            long least = 600;
            long most = 0;
            for (int s = 0; s < 4; s++) {
                for (int b = 0; b < moves.length && (states >> s & 1) == 1; b++) {
                    long above = x.load(s, b, 0);
                    long below = x.load(s, b, 1);
                    if (below > 0) {
                        least = Math.min(least, above / below);
                        most = Math.max(most, (above + below - 1) / below);
                    }
                }
            }
            if (least <= most && most <= 600) {
                low = (int) least;
                high = (int) most;
            }
        }

        private boolean may(int[] moves) {
            for (int b = 0; b < moves.length; b++) {
                if (Math.abs(offsets.get(b) + moves[b]) > 50) {
                    return false;
                }
            }
            return true;
        }

        void put(ShaftLine x, int[] moves) {
            while (x.count(0) > 0) {
                x.remove(0);
            }
            for (int p = 0; p < 13; p++) {
                x.weight(p, weights[p]);
                for (int s = 0; s < 4; s++) {
                    x.rise(s, p, rises[s][p]);
                }
            }
            x.stiffness(stiffness);
            for (int b = 0; b < moves.length; b++) {
                x.bearing(places.get(b), offsets.get(b) + moves[b]);
            }
            x.bounds(low, high);
        }

        void compare(ShaftLine x, int number) {
            int[] due = first();
            int dueMoved = due == null ? ShaftLine.NONE : moved(due);
            found[Math.max(-1, dueMoved) + 1]++;
            int got = x.plan(states);
            boolean like = got == dueMoved;
            for (int b = 0; b < places.size(); b++) {
                like &= x.move(states, b) == (due == null ? ShaftLine.NONE - 100 : due[b]);
            }
            if (!like) {
                wrong++;
                System.out.println("case " + number + ": plan answered " + got + ", due is " + dueMoved + " or its moves");
            }
        }

        private int[] first() {
            List<int[]> all = new ArrayList<>();
            add(new int[places.size()], 0, all);
            Collections.sort(all, Case::better);
            ShaftLine x = null;
            for (int k = 0; k < all.size(); k++) {
                int[] moves = all.get(k);
                if (k % 50 == 0) {
                    x = new ShaftLine();
                    put(x, new int[places.size()]);
                }
                for (int b = 0; b < moves.length; b++) {
                    x.offset(b, offsets.get(b) + moves[b]);
                }
                if (x.fits(states) == 1) {
                    return moves;
                }
            }
            return null;
        }

        private void add(int[] moves, int b, List<int[]> all) {
            if (b == moves.length) {
                if (may(moves)) {
                    all.add(moves.clone());
                }
                return;
            }
            for (int m = -2; m <= 2; m++) {
                moves[b] = m;
                add(moves, b + 1, all);
            }
        }

        private static int moved(int[] moves) {
            int many = 0;
            for (int m : moves) {
                many += m != 0 ? 1 : 0;
            }
            return many;
        }

        private static int sizes(int[] moves) {
            int sum = 0;
            for (int m : moves) {
                sum += Math.abs(m);
            }
            return sum;
        }

        private static int better(int[] one, int[] other) {
            int by = moved(one) - moved(other);
            by = by != 0 ? by : sizes(one) - sizes(other);
            for (int b = 0; b < one.length && by == 0; b++) {
                by = one[b] - other[b];
            }
            return by;
        }
    }
}
