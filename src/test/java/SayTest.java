/** Promises 26 and 27: rests, rest. */
public final class SayTest {
    public static void main(String[] args) {
        wrongOnes();
        wishes(20, 22, 21);
        wishes(22, 20, 12);
        // Both as they want; or one more, one less: who came back to the truth alone would have 19 or 21.
        wishes(20, 20, 1221);
        // SET is 5 or 30 whatever they say, and the truth saves 6.
        wishes(0, 0, 0);
        wishes(40, 40, 0);
        for (int one = 0; one <= 40; one += 3) {
            for (int other = 0; other <= 40; other++) {
                wishes(one, other, bySearch(one, other));
            }
        }
        Hall.end();
    }

    private static KnobHall hall(int one, int other) {
        return Hall.of("room h 100 0 0;person a h " + one + " 0 0;person b h " + other + " 0 0;");
    }

    private static void wrongOnes() {
        KnobHall hall = hall(20, 22);
        Hall.due("alike", hall.rests(0, 0), -1);
        Hall.due("no second", hall.rests(0, 2), -1);
        Hall.due("no first", hall.rests(2, 0), -1);
        Hall.due("first -1", hall.rests(-1, 0), -1);
        Hall.due("second -1", hall.rests(0, -1), -1);
        Hall.due("rest alike", hall.rest(1, 1, 0), -1);
        Hall.due("rest of no second", hall.rest(0, 2, 0), -1);
        Hall.due("rest of no first", hall.rest(-1, 0, 0), -1);
        Hall.due("k -1", hall.rest(0, 1, -1), -1);
        Hall.due("k 1", hall.rest(0, 1, 1), -2);
        Hall.due("k far", hall.rest(0, 1, Integer.MAX_VALUE), -2);
        Hall.due("the other way round", hall.rest(1, 0, 0), 12);
    }

    private static int loss(int wants, int how, int sum) {
        int set = Math.max(5, Math.min(30, sum / 2));
        return Math.abs(10 * set - 10 * wants) + (how == 0 ? 0 : 6);
    }

    /** The rests as digits in a row, by trying all nine. */
    private static long bySearch(int one, int other) {
        int[] more = {0, 2, -2};
        long rests = 0;
        for (int i = 0; i < 3; i++) {
            for (int j = 0; j < 3; j++) {
                int least = Integer.MAX_VALUE;
                int othersLeast = Integer.MAX_VALUE;
                for (int k = 0; k < 3; k++) {
                    least = Math.min(least, loss(one, k, one + more[k] + other + more[j]));
                    othersLeast = Math.min(othersLeast, loss(other, k, one + more[i] + other + more[k]));
                }
                int sum = one + more[i] + other + more[j];
                if (loss(one, i, sum) == least && loss(other, j, sum) == othersLeast) {
                    rests = rests * 100 + 10 * i + j;
                }
            }
        }
        return rests;
    }

    private static void wishes(int one, int other, long want) {
        KnobHall hall = hall(one, other);
        int rests = hall.rests(0, 1);
        long got = 0;
        for (int k = 0; k < rests; k++) {
            got = got * 100 + hall.rest(0, 1, k);
        }
        Hall.due("rests of " + one + ", " + other, got, want);
        Hall.due("no more than " + rests, hall.rest(0, 1, rests), -2);
    }
}
