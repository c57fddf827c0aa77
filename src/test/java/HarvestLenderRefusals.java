import java.util.ArrayList;
import java.util.Arrays;
import java.util.List;
import java.util.function.Supplier;

/**
 * A call that throws an exception changes nothing: behind each refused call, at many moments, an object
 * answers all that follows as its twin does, to which the refused call was not made.
 */
public final class HarvestLenderRefusals extends Checks {
    private record Moment(String name, Supplier<HarvestLender> object) {
    }

    private record Tried(String name, int[] arguments) {
        String told() {
            return name + " " + Arrays.toString(arguments);
        }
    }

    private static final List<Moment> MOMENTS = List.of(
        new Moment("no farmers", () -> new HarvestLender()),
        new Moment("nothing planted", () -> with(2, 0)),
        new Moment("stage 0, planted", () -> planted()),
        new Moment("stage 0, all is drawn", () -> drawn()),
        new Moment("stage 2, some is drawn", () -> at(drawn(), 2)),
        new Moment("stage 4, harvested", () -> at(drawn(), 4)),
        new Moment("stage 4, some is pledged", () -> pledged()),
        new Moment("stage 4, all is sold", () -> sold()),
        new Moment("stage 0, grain of another crop, instalments, called", () -> closed(pledged())),
        new Moment("stage 0, purses and debts", () -> indebted()),
        new Moment("season 20, stage 4", () -> lastSeason()),
        new Moment("eight farmers", () -> at(eight(), 3)));

    private static final int[] NO_ARGUMENTS = {};

    public static void main(String[] args) {
        int refused = 0;
        for (Moment moment : MOMENTS) {
            List<String> due = allThatFollows(moment.object().get());
            for (Tried tried : allTried()) {
                HarvestLender x = moment.object().get();
                String got = answer(() -> Calls.ask(x, tried.name(), tried.arguments()));
                if (got.startsWith("throws")) {
                    refused++;
                    about = moment.name() + ", behind the refused " + tried.told();
                    sameAnswers(allThatFollows(x), due);
                }
            }
            about = moment.name() + ", made again";
            sameAnswers(allThatFollows(moment.object().get()), due);
        }
        about = "the refused calls";
        due("many", refused > 2000 ? 1 : 0, 1);
        finish();
    }

    /** Tells the first answer that differs alone: all of them would be pages. */
    private static void sameAnswers(List<String> got, List<String> due) {
        for (int i = 0; i < Math.min(got.size(), due.size()); i++) {
            if (!got.get(i).equals(due.get(i))) {
                same("answer", got.get(i), due.get(i));
                return;
            }
        }
        due("number of answers", got.size(), due.size());
    }

    // ---- the calls that are tried

    private static List<Tried> allTried() {
        List<Tried> all = new ArrayList<>();
        for (int crop : new int[] {-1, 0, 3}) {
            for (int stage : new int[] {-1, 0, 4}) {
                for (int cents : new int[] {-1, 7, 100001}) {
                    all.add(new Tried("setNeed", new int[] {crop, stage, cents}));
                }
            }
            for (int cents : new int[] {0, 7, 5001}) {
                for (int normal : new int[] {-1, 7, 101}) {
                    all.add(new Tried("setCrop", new int[] {crop, cents, normal}));
                }
            }
        }
        for (int group = -1; group <= 3; group++) {
            all.add(new Tried("add", new int[] {group}));
        }
        for (String call : new String[] {"next", "close"}) {
            all.add(new Tried(call, NO_ARGUMENTS));
        }
        for (int farmer = -1; farmer <= 8; farmer++) {
            addTriedOf(all, farmer);
        }
        return all;
    }

    private static void addTriedOf(List<Tried> all, int farmer) {
        for (int crop = -1; crop <= 3; crop++) {
            for (int hectares : new int[] {0, 1, 50, 51}) {
                all.add(new Tried("plant", new int[] {farmer, crop, hectares}));
            }
        }
        for (int value : new int[] {SMALL, -1, 0, 1, 2, 40, 49, 51, 90, 91, 200, 201, 1001, 50000, 1000000, 1000001,
            100000000, 100000001, BIG}) {
            for (String call : new String[] {"cover", "draw", "setYield", "pledge", "sell", "repay", "repaid"}) {
                all.add(new Tried(call, new int[] {farmer, value}));
            }
        }
        for (String call : new String[] {"limit", "debt", "owes", "instalments", "purse", "called", "charged"}) {
            all.add(new Tried(call, new int[] {farmer}));
        }
        for (int pledged = 0; pledged <= 1; pledged++) {
            all.add(new Tried("grain", new int[] {farmer, pledged}));
        }
    }

    // ---- what follows: all that is shown, and then calls that show what is hidden

    private static List<String> allThatFollows(HarvestLender x) {
        List<String> told = new ArrayList<>();
        tellAll(told, x);
        for (int farmer = 0; farmer < x.farmers(); farmer++) {
            tell(told, x, "cover", farmer, 50);
            tell(told, x, "setYield", farmer, 40);
            tell(told, x, "draw", farmer, 1);
            tell(told, x, "plant", farmer, farmer % 3, 10);
        }
        for (int stage = x.stage(); stage < 4; stage++) {
            tell(told, x, "next");
        }
        for (int farmer = 0; farmer < x.farmers(); farmer++) {
            tell(told, x, "owes", farmer);
            tell(told, x, "purse", farmer);
            tell(told, x, "grain", farmer, 0);
            tell(told, x, "pledge", farmer, 2);
            tell(told, x, "sell", farmer, 3);
        }
        tell(told, x, "close");
        tellAll(told, x);
        for (int crop = 0; crop < 3; crop++) {
            for (int stage = 0; stage < 4; stage++) {
                tell(told, x, "setNeed", crop, stage, 1);
            }
            tell(told, x, "setCrop", crop, 1, 1);
        }
        tell(told, x, "add", 0);
        return told;
    }

    private static void tellAll(List<String> told, HarvestLender x) {
        tell(told, x, "farmers");
        tell(told, x, "season");
        tell(told, x, "stage");
        for (int farmer = 0; farmer < x.farmers(); farmer++) {
            for (String call : new String[] {"limit", "debt", "owes", "instalments", "purse", "called", "charged"}) {
                tell(told, x, call, farmer);
            }
            tell(told, x, "grain", farmer, 0);
            tell(told, x, "grain", farmer, 1);
            for (int source = 0; source < 5; source++) {
                tell(told, x, "repaid", farmer, source);
            }
        }
    }

    private static void tell(List<String> told, HarvestLender x, String call, int... arguments) {
        told.add(call + " " + Arrays.toString(arguments) + " " + answer(() -> Calls.ask(x, call, arguments)));
    }

    // ---- the moments

    /** Three farmers of one group; the first has a bad year, the others a good one. */
    private static HarvestLender planted() {
        HarvestLender x = with(3, 0);
        x.setNeed(0, 1, 500);
        x.setCrop(1, 30, 60);
        x.setCrop(2, 40, 70);
        for (int farmer = 0; farmer < 3; farmer++) {
            x.plant(farmer, farmer, 1 + farmer);
            x.cover(farmer, 60);
        }
        x.setYield(0, 50);
        return x;
    }

    private static HarvestLender drawn() {
        HarvestLender x = planted();
        x.draw(0, 1000);
        x.draw(1, 1500);
        return x;
    }

    private static HarvestLender pledged() {
        HarvestLender x = at(drawn(), 4);
        for (int farmer = 0; farmer < 3; farmer++) {
            x.pledge(farmer, 3);
        }
        x.sell(2, 100);
        return x;
    }

    private static HarvestLender sold() {
        HarvestLender x = at(drawn(), 4);
        for (int farmer = 0; farmer < 3; farmer++) {
            x.sell(farmer, x.grain(farmer, false));
        }
        return x;
    }

    private static HarvestLender indebted() {
        HarvestLender x = closed(sold());
        for (int farmer = 0; farmer < 3; farmer++) {
            x.plant(farmer, 0, 1);
            x.draw(farmer, 40);
        }
        return x;
    }

    private static HarvestLender eight() {
        HarvestLender x = new HarvestLender();
        for (int farmer = 0; farmer < 8; farmer++) {
            x.add(farmer % 3);
            x.plant(farmer, farmer % 3, 1);
            x.draw(farmer, 400 + farmer);
        }
        return x;
    }

    private static HarvestLender lastSeason() {
        HarvestLender x = drawn();
        for (int season = 0; season < 20; season++) {
            closed(x);
        }
        x.plant(0, 0, 5);
        x.draw(0, 7);
        return at(x, 4);
    }
}
