import java.util.ArrayDeque;
import java.util.ArrayList;
import java.util.Arrays;
import java.util.Deque;
import java.util.List;
import java.util.function.LongSupplier;

/**
 * Long runs of calls from fixed seeds, each answer compared with a second, slower reading of the
 * document's terms that keeps every unit of grain by itself and every cent in a book. Every second run
 * does mostly what farmers do at a stage, so that seasons follow on one another with debts, pledges,
 * covers and instalments at once, and asks for everything at its end.
 */
public final class HarvestLenderRandomRuns {
    private static final int RUNS = 2000;
    private static final int CALLS = 512;

    private static final String[] ANY_CALLS = {"setNeed", "setCrop", "add", "farmers", "plant", "plant", "plant",
        "cover", "draw", "draw", "setYield", "setYield", "pledge", "pledge", "sell", "sell", "repay", "season",
        "stage", "limit", "debt", "owes", "instalments", "purse", "grain", "called", "repaid", "charged", "close"};
    private static final String[] SOWING = {"plant", "plant", "plant", "plant", "cover", "cover", "draw", "draw",
        "setYield", "setYield", "pledge", "sell", "repay", "setNeed", "setCrop"};
    private static final String[] GROWING = {"draw", "draw", "setYield", "setYield", "pledge", "sell", "repay",
        "debt", "purse"};
    private static final String[] REAPING = {"pledge", "sell", "sell", "repay", "owes", "purse", "instalments"};
    private static final String[] ASKING = {"limit", "debt", "owes", "instalments", "purse", "called", "charged",
        "grain", "grain", "repaid", "repaid", "repaid", "repaid", "repaid"};

    public static void main(String[] args) {
        for (int run = 0; run < RUNS; run++) {
            if (!new Run(run).holds()) {
                System.exit(1);
            }
        }
        System.out.println(RUNS + " runs of " + CALLS + " calls hold");
    }

    /** One run: the calls come from the seed, and lean towards those that can succeed. */
    private static final class Run {
        private final int seed;
        private final HarvestLender x = new HarvestLender();
        private final Book book = new Book();
        private final List<String> told = new ArrayList<>();
        private final boolean farming;
        private long state;

        Run(int seed) {
            this.seed = seed;
            this.farming = seed % 2 == 1;
            this.state = seed * 7919L + 17;
        }

        private int upTo(int most) {
            state = state * 6364136223846793005L + 1442695040888963407L;
            return (int) Math.floorMod(state >>> 33, (long) most + 1);
        }

        private int between(int least, int most) {
            return least + upTo(most - least);
        }

        /** Mostly inside the range, now and then at its edges or just outside. */
        private int near(int least, int most) {
            switch (upTo(15)) {
                case 0: return least - 1;
                case 1: return most + 1;
                case 2: return least;
                case 3: return most;
                default: return between(least, most);
            }
        }

        private int farmer() {
            return upTo(30) == 0 ? near(0, 8) : upTo(Math.max(0, book.farmers.size() - 1));
        }

        boolean holds() {
            int calm = 1 + upTo(farming ? 2 : 3);
            for (int i = 0; i < CALLS; i++) {
                int left = CALLS - i;
                boolean ends = farming && left <= ASKING.length * book.farmers.size();
                String call = ends ? ASKING[left % ASKING.length] : nextCall(i < 12, calm);
                int[] with = ends ? askingArguments(left) : arguments(call);
                if (!holds(call, with)) {
                    return false;
                }
            }
            return true;
        }

        private boolean holds(String call, int[] with) {
            String got = answer(() -> Calls.ask(x, call, with));
            String want = answer(() -> book.ask(call, with));
            told.add(call + " " + Arrays.toString(with) + " -> " + got);
            if (!got.equals(want)) {
                System.out.println("seed " + seed + ", due is " + want + ":");
                told.subList(Math.max(0, told.size() - 60), told.size()).forEach(System.out::println);
            }
            return got.equals(want);
        }

        private String nextCall(boolean first, int calm) {
            if (first && upTo(1) == 0) {
                return upTo(2) == 0 ? (upTo(1) == 0 ? "setNeed" : "setCrop") : "add";
            }
            if (upTo(9) < calm) {
                return book.stage == 4 && upTo(3) > 0 ? "close" : "next";
            }
            String[] calls = usualCalls();
            return calls[upTo(calls.length - 1)];
        }

        private String[] usualCalls() {
            if (!farming) {
                return ANY_CALLS;
            }
            return book.stage == 0 ? SOWING : book.stage == 4 ? REAPING : GROWING;
        }

        /** The farmers one behind the other; for each the pledged grain and all, and the five sources. */
        private int[] askingArguments(int left) {
            int farmer = (left - 1) / ASKING.length;
            int which = left % ASKING.length;
            switch (ASKING[which]) {
                case "grain": return new int[] {farmer, which % 2};
                case "repaid": return new int[] {farmer, which - (ASKING.length - 5)};
                default: return new int[] {farmer};
            }
        }

        private int[] arguments(String call) {
            int f = farmer();
            Book.Owner o = f >= 0 && f < book.farmers.size() ? book.farmers.get(f) : null;
            switch (call) {
                case "setNeed": return new int[] {near(0, 2), near(0, 3), near(0, upTo(1) == 0 ? 100000 : 900)};
                case "setCrop": return new int[] {near(0, 2), near(1, upTo(1) == 0 ? 5000 : 9), near(0, 100)};
                case "add": return new int[] {farming && upTo(2) > 0 ? 1 : near(0, 2)};
                case "plant": return new int[] {f, farming ? cropToPlant(o) : near(0, 2), near(1, 50)};
                case "cover": return new int[] {f, near(1, 90)};
                case "draw": return new int[] {f, near(1, o == null ? 9 : (int) Math.max(1, book.drawable(o)))};
                case "setYield": return new int[] {f, upTo(2) == 0 ? between(57, 62) : near(0, farming ? 80 : 200)};
                case "pledge": return new int[] {f, near(1, o == null ? 9 : Math.max(1, o.units(false)))};
                case "sell": return new int[] {f, near(1, o == null ? 9 : Math.max(1, o.grain.size()))};
                case "repay": return new int[] {f, near(1, o == null ? 9 : (int) Math.max(1, Math.min(o.debt, o.purse)))};
                case "grain": return new int[] {f, upTo(1)};
                case "repaid": return new int[] {f, near(0, 4)};
                case "limit": case "debt": case "owes": case "instalments": case "purse": case "called": case "charged":
                    return new int[] {f};
                default: return new int[0];
            }
        }

        private int cropToPlant(Book.Owner o) {
            return o == null || o.grain.isEmpty() || upTo(5) == 0 ? near(0, 2) : o.cropOfGrain;
        }

        private static String answer(LongSupplier call) {
            try {
                return String.valueOf(call.getAsLong());
            } catch (RuntimeException e) {
                return "throws " + e.getClass().getName();
            }
        }
    }

    /** The second reading. */
    private static final class Book {
        static final class Owner {
            final int group;
            final List<Boolean> grain = new ArrayList<>();
            final Deque<Long> row = new ArrayDeque<>();
            final long[] from = new long[5];
            int cropOfGrain;
            long purse, debt, pledgeDebt, charged, called;
            int[] field;
            int cover, drawn;
            Integer yield;

            Owner(int group) {
                this.group = group;
            }

            int units(boolean pledged) {
                int n = 0;
                for (boolean b : grain) {
                    n += b == pledged ? 1 : 0;
                }
                return n;
            }

            int yieldNow() {
                return yield == null ? 100 : yield;
            }

            void comes(long cents, int source) {
                long part = cents > debt ? debt : cents;
                debt -= part;
                from[source] += part;
                purse += cents - part;
            }
        }

        final long[][] need = new long[3][4];
        final long[] price = {100, 100, 100};
        final long[] normal = {50, 50, 50};
        final List<Owner> farmers = new ArrayList<>();
        int season, stage;

        Book() {
            for (long[] row : need) {
                Arrays.fill(row, 1000);
            }
        }

        private static void index(boolean right) {
            if (!right) {
                throw new IndexOutOfBoundsException();
            }
        }

        private static void argument(boolean right) {
            if (!right) {
                throw new IllegalArgumentException();
            }
        }

        private static void state(boolean right) {
            if (!right) {
                throw new IllegalStateException();
            }
        }

        private static boolean in(int value, int least, int most) {
            return least <= value && value <= most;
        }

        private Owner of(int farmer) {
            index(in(farmer, 0, farmers.size() - 1));
            return farmers.get(farmer);
        }

        long limit(Owner o) {
            if (o.field == null) {
                return 0;
            }
            long sum = 0;
            int last = stage == 4 ? 3 : stage;
            for (int s = last; s >= 0; s--) {
                sum += need[o.field[0]][s];
            }
            return sum * o.field[1];
        }

        long drawable(Owner o) {
            return limit(o) - o.drawn;
        }

        long ask(String call, int[] a) {
            switch (call) {
                case "setNeed": {
                    index(in(a[0], 0, 2) && in(a[1], 0, 3));
                    argument(in(a[2], 0, 100000));
                    long before = need[a[0]][a[1]];
                    need[a[0]][a[1]] = a[2];
                    return before;
                }
                case "setCrop": {
                    index(in(a[0], 0, 2));
                    argument(in(a[1], 1, 5000) && in(a[2], 0, 100));
                    long before = price[a[0]];
                    price[a[0]] = a[1];
                    normal[a[0]] = a[2];
                    return before;
                }
                case "add":
                    index(in(a[0], 0, 2));
                    state(farmers.size() != 8);
                    farmers.add(new Owner(a[0]));
                    return farmers.size() - 1;
                case "farmers": return farmers.size();
                case "plant": return plant(of(a[0]), a[1], a[2]);
                case "cover": return cover(of(a[0]), a[1]);
                case "draw": return draw(of(a[0]), a[1]);
                case "setYield": return setYield(of(a[0]), a[1]);
                case "next": return next();
                case "pledge": return pledge(of(a[0]), a[1]);
                case "sell": return sell(of(a[0]), a[1]);
                case "repay": return repay(of(a[0]), a[1]);
                case "close": return close();
                case "season": return season;
                case "stage": return stage;
                case "limit": return limit(of(a[0]));
                case "debt": return of(a[0]).debt;
                case "owes": return owes(of(a[0]));
                case "instalments": return of(a[0]).row.size();
                case "purse": return of(a[0]).purse;
                case "grain": return a[1] == 1 ? of(a[0]).units(true) : of(a[0]).grain.size();
                case "called": return of(a[0]).called;
                case "repaid": {
                    Owner o = of(a[0]);
                    argument(in(a[1], 0, 4));
                    return o.from[a[1]];
                }
                case "charged": return of(a[0]).charged;
                default: throw new Error(call);
            }
        }

        private long plant(Owner o, int crop, int hectares) {
            index(in(crop, 0, 2));
            argument(in(hectares, 1, 50));
            state(stage == 0 && o.field == null);
            state(o.grain.isEmpty() || o.cropOfGrain == crop);
            o.field = new int[] {crop, hectares};
            return limit(o);
        }

        private long cover(Owner o, int percent) {
            argument(in(percent, 1, 90));
            state(stage == 0 && o.field != null);
            int before = o.cover;
            o.cover = percent;
            return before;
        }

        private long draw(Owner o, int cents) {
            argument(in(cents, 1, 100000000));
            state(stage != 4 && (long) o.drawn + cents <= limit(o));
            o.drawn += cents;
            o.debt += cents;
            o.charged += cents;
            return drawable(o);
        }

        private long setYield(Owner o, int percent) {
            argument(in(percent, 0, 200));
            state(stage != 4);
            int before = o.yieldNow();
            o.yield = percent;
            return before;
        }

        private long next() {
            state(stage != 4);
            stage++;
            for (Owner o : farmers) {
                long two = o.debt / 50;
                o.debt += two;
                o.charged += two;
            }
            for (Owner o : farmers) {
                if (stage == 4 && o.field != null) {
                    long usual = o.field[1] * normal[o.field[0]];
                    for (long n = usual * o.yieldNow() / 100; n > 0; n--) {
                        o.grain.add(false);
                    }
                    o.cropOfGrain = o.field[0];
                    if (o.cover > 0 && o.yieldNow() < o.cover) {
                        o.comes(usual * price[o.field[0]] * (o.cover - o.yieldNow()) / 100, HarvestLender.COVER);
                    }
                }
            }
            return stage;
        }

        private long pledge(Owner o, int units) {
            argument(in(units, 1, 1000000));
            state(o.units(false) >= units);
            for (int n = units; n > 0; n--) {
                o.grain.set(o.grain.indexOf(false), true);
            }
            long cents = units * price[o.cropOfGrain] * 6 / 10;
            o.comes(cents, HarvestLender.PLEDGE);
            o.pledgeDebt += cents;
            return cents;
        }

        private long sell(Owner o, int units) {
            argument(in(units, 1, 1000000));
            state(o.grain.size() >= units);
            long each = price[o.cropOfGrain];
            for (int n = units; n > 0; n--) {
                if (o.grain.contains(false)) {
                    o.grain.remove(Boolean.FALSE);
                    o.comes(each, HarvestLender.SALE);
                } else {
                    o.grain.remove(Boolean.TRUE);
                    long part = each > o.pledgeDebt ? o.pledgeDebt : each;
                    o.pledgeDebt -= part;
                    o.comes(each - part, HarvestLender.SALE);
                }
            }
            if (!o.grain.contains(true)) {
                o.debt += o.pledgeDebt;
                o.charged += o.pledgeDebt;
                o.pledgeDebt = 0;
            }
            return each * units;
        }

        private long repay(Owner o, int cents) {
            argument(in(cents, 1, 100000000));
            state(o.debt >= cents && o.purse >= cents);
            o.purse -= cents;
            o.comes(cents, HarvestLender.PURSE);
            return o.debt;
        }

        private long close() {
            state(stage == 4 && season != 20);
            for (Owner o : farmers) {
                o.called = 0;
                if (!o.row.isEmpty()) {
                    o.debt += o.row.removeFirst();
                }
                long all = o.purse;
                o.purse = 0;
                o.comes(all, HarvestLender.PURSE);
            }
            for (Owner o : farmers) {
                if (o.debt > 0 && o.field != null && o.yieldNow() < 60 && o.row.isEmpty()) {
                    o.row.add(o.debt / 3);
                    o.row.add(o.debt / 3);
                    o.row.add(o.debt - 2 * (o.debt / 3));
                    o.debt = 0;
                }
                for (Owner other : farmers) {
                    long most = Math.min(20000 - other.called, other.purse);
                    if (other != o && other.group == o.group && o.debt > 0 && most > 0) {
                        long part = Math.min(most, o.debt);
                        other.purse -= part;
                        other.called += part;
                        o.comes(part, HarvestLender.GROUP);
                    }
                }
            }
            for (Owner o : farmers) {
                o.field = null;
                o.cover = 0;
                o.yield = null;
                o.drawn = 0;
            }
            stage = 0;
            return ++season;
        }

        private long owes(Owner o) {
            long sum = o.debt + o.pledgeDebt;
            for (long part : o.row) {
                sum += part;
            }
            return sum;
        }
    }
}
