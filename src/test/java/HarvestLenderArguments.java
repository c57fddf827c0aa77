import java.util.ArrayList;
import java.util.List;
import java.util.function.Supplier;

/**
 * For each call of the face, from one table: the smallest and the largest argument that is allowed,
 * the next one beyond each, numbers that there are not, and which exception is thrown where several apply.
 */
public final class HarvestLenderArguments extends Checks {
    /** From least to most is allowed; beyond, the exception is thrown; usual is taken while another one is looked at. */
    private record Parameter(String name, int least, int most, int usual, String beyond) {
        int[] outside() {
            return new int[] {least - 1, most + 1, SMALL, BIG};
        }
    }

    /** A moment, on an object of its own each time; a refusing one refuses the usual arguments. */
    private record Moment(String name, Supplier<HarvestLender> object) {
    }

    private record Call(String name, Moment ready, List<Moment> refusing, List<Parameter> parameters) {
        int[] usual() {
            int[] arguments = new int[parameters.size()];
            for (int i = 0; i < arguments.length; i++) {
                arguments[i] = parameters.get(i).usual();
            }
            return arguments;
        }

        int[] usualBut(int which, int value) {
            int[] arguments = usual();
            arguments[which] = value;
            return arguments;
        }
    }

    private static final Parameter FARMER = new Parameter("farmer", 0, 7, 3, INDEX);
    private static final Parameter CROP = new Parameter("crop", 0, 2, 1, INDEX);
    private static final Parameter STAGE = new Parameter("stage", 0, 3, 2, INDEX);
    private static final Parameter GROUP = new Parameter("group", 0, 2, 1, INDEX);
    /** A boolean: it has nothing beyond. */
    private static final Parameter PLEDGED = new Parameter("pledged", 0, 1, 1, null);

    private static final Moment EIGHT = new Moment("eight farmers", () -> with(8, 0));
    private static final Moment SEVEN = new Moment("seven farmers", () -> with(7, 0));
    private static final Moment PLANTED = new Moment("all have planted", () -> planted(8, 1));
    private static final Moment HARVESTED = new Moment("all have grain", () -> at(planted(8, 1), 4));
    private static final Moment STAGE_4 = new Moment("stage 4", () -> at(with(8, 0), 4));
    private static final Moment PLANTED_STAGE_1 = new Moment("planted, stage 1", () -> at(planted(8, 1), 1));
    private static final Moment PLANTED_STAGE_4 = new Moment("planted, stage 4", () -> at(planted(8, 1), 4));
    private static final Moment PLEDGED_ALL = new Moment("all is pledged", () -> pledgedAll());
    private static final Moment OTHER_GRAIN = new Moment("grain of another crop", () -> closed(planted(8, 2)));
    private static final Moment INDEBTED = new Moment("purses and debts", () -> indebted());
    private static final Moment NO_PURSE = new Moment("no purse", () -> drawn());
    private static final Moment NO_DEBT = new Moment("no debt", () -> sold());

    private static final List<Call> CALLS = List.of(
        call("setNeed", EIGHT, List.of(), CROP, STAGE, amount("cents", 0, 100000, 5)),
        call("setCrop", EIGHT, List.of(), CROP, amount("cents", 1, 5000, 5), amount("normal", 0, 100, 5)),
        call("add", SEVEN, List.of(EIGHT), GROUP),
        call("farmers", EIGHT, List.of()),
        call("plant", EIGHT, List.of(PLANTED, OTHER_GRAIN, new Moment("stage 1", () -> at(with(8, 0), 1)), STAGE_4),
            FARMER, CROP, amount("hectares", 1, 50, 5)),
        call("cover", PLANTED, List.of(EIGHT, PLANTED_STAGE_1, PLANTED_STAGE_4), FARMER, amount("percent", 1, 90, 5)),
        call("draw", PLANTED, List.of(EIGHT, PLANTED_STAGE_4), FARMER, amount("cents", 1, 100000000, 5)),
        call("setYield", EIGHT, List.of(STAGE_4, PLANTED_STAGE_4), FARMER, amount("percent", 0, 200, 5)),
        call("next", EIGHT, List.of(STAGE_4)),
        call("pledge", HARVESTED, List.of(EIGHT, PLEDGED_ALL), FARMER, amount("units", 1, 1000000, 5)),
        call("sell", HARVESTED, List.of(EIGHT), FARMER, amount("units", 1, 1000000, 5)),
        call("repay", INDEBTED, List.of(EIGHT, NO_PURSE, NO_DEBT), FARMER, amount("cents", 1, 100000000, 5)),
        call("close", STAGE_4, List.of(EIGHT, new Moment("stage 3", () -> at(with(8, 0), 3)),
            new Moment("season 20", () -> lastSeason()))),
        call("season", EIGHT, List.of()),
        call("stage", EIGHT, List.of()),
        call("limit", EIGHT, List.of(), FARMER),
        call("debt", EIGHT, List.of(), FARMER),
        call("owes", EIGHT, List.of(), FARMER),
        call("instalments", EIGHT, List.of(), FARMER),
        call("purse", EIGHT, List.of(), FARMER),
        call("grain", EIGHT, List.of(), FARMER, PLEDGED),
        call("called", EIGHT, List.of(), FARMER),
        call("repaid", EIGHT, List.of(), FARMER, amount("source", 0, 4, 2)),
        call("charged", EIGHT, List.of(), FARMER));

    /** A largest argument that is allowed, but more than these moments have: the state refuses it, not the range. */
    private static final List<String> BEYOND_THE_STATE = List.of("draw cents", "pledge units", "sell units", "repay cents");

    public static void main(String[] args) {
        for (Call call : CALLS) {
            usualIsAllowed(call);
            for (int i = 0; i < call.parameters().size(); i++) {
                endsAreAllowed(call, i);
                beyondIsRefused(call, i);
            }
            firstListedIsThrown(call);
        }
        farmersThatThereAreNot();
        finish();
    }

    // ---- what is looked at

    private static void usualIsAllowed(Call call) {
        about = call.name();
        String got = answer(() -> Calls.ask(call.ready().object().get(), call.name(), call.usual()));
        same("throws anything", String.valueOf(got.startsWith("throws")), "false");
        for (Moment moment : call.refusing()) {
            thrown(moment.name(), STATE, () -> Calls.ask(moment.object().get(), call.name(), call.usual()));
        }
    }

    private static void endsAreAllowed(Call call, int which) {
        Parameter parameter = call.parameters().get(which);
        for (int value : new int[] {parameter.least(), parameter.most()}) {
            about = call.name() + ", " + parameter.name() + " " + value + " is allowed";
            boolean tooMuch = value == parameter.most()
                && BEYOND_THE_STATE.contains(call.name() + " " + parameter.name());
            String got = answer(() -> Calls.ask(call.ready().object().get(), call.name(), call.usualBut(which, value)));
            same("answer", got.startsWith("throws") ? got : "a number", tooMuch ? "throws " + STATE : "a number");
        }
    }

    private static void beyondIsRefused(Call call, int which) {
        Parameter parameter = call.parameters().get(which);
        if (parameter.beyond() == null) {
            return;
        }
        for (int value : parameter.outside()) {
            about = call.name() + ", " + parameter.name() + " " + value + " is refused";
            thrown("answer", parameter.beyond(),
                () -> Calls.ask(call.ready().object().get(), call.name(), call.usualBut(which, value)));
        }
    }

    /** Every choice of wrong arguments, at the ready moment and at the refusing ones. */
    private static void firstListedIsThrown(Call call) {
        List<Moment> moments = new ArrayList<>(call.refusing());
        moments.add(call.ready());
        int choices = 1 << call.parameters().size();
        for (Moment moment : moments) {
            for (int choice = 1; choice < choices; choice++) {
                for (int side = 0; side < 4; side++) {
                    wrongOnes(call, moment, choice, side);
                }
            }
        }
    }

    private static void wrongOnes(Call call, Moment moment, int choice, int side) {
        int[] arguments = call.usual();
        String due = null;
        StringBuilder told = new StringBuilder(call.name() + " at: " + moment.name() + ", wrong:");
        for (int i = 0; i < arguments.length; i++) {
            Parameter parameter = call.parameters().get(i);
            if ((choice >> i & 1) == 0) {
                continue;
            }
            if (parameter.beyond() == null) {
                return;
            }
            arguments[i] = parameter.outside()[side];
            told.append(' ').append(parameter.name()).append(' ').append(arguments[i]);
            due = INDEX.equals(due) ? INDEX : parameter.beyond();
        }
        about = told.toString();
        String first = due;
        thrown("answer", first, () -> Calls.ask(moment.object().get(), call.name(), arguments));
    }

    /** With no farmers up to eight, the last one there is and the first one there is not. */
    private static void farmersThatThereAreNot() {
        for (Call call : CALLS) {
            if (!call.parameters().contains(FARMER)) {
                continue;
            }
            for (int farmers = 0; farmers <= 8; farmers++) {
                HarvestLender x = with(farmers, 0);
                int beyond = farmers;
                about = call.name() + " with " + farmers + " farmers";
                thrown("farmer " + beyond, INDEX, () -> Calls.ask(x, call.name(), call.usualBut(0, beyond)));
                thrown("farmer -1", INDEX, () -> Calls.ask(x, call.name(), call.usualBut(0, -1)));
                if (farmers > 0) {
                    String got = answer(() -> Calls.ask(x, call.name(), call.usualBut(0, beyond - 1)));
                    same("farmer " + (beyond - 1) + " is none", String.valueOf(got.equals("throws " + INDEX)), "false");
                }
            }
        }
    }

    // ---- the table's words

    private static Parameter amount(String name, int least, int most, int usual) {
        return new Parameter(name, least, most, usual, ARGUMENT);
    }

    private static Call call(String name, Moment ready, List<Moment> refusing, Parameter... parameters) {
        return new Call(name, ready, refusing, List.of(parameters));
    }

    // ---- the moments

    private static HarvestLender planted(int farmers, int crop) {
        HarvestLender x = with(farmers, 0);
        for (int i = 0; i < farmers; i++) {
            x.plant(i, crop, 2);
        }
        return x;
    }

    private static HarvestLender pledgedAll() {
        HarvestLender x = at(planted(8, 1), 4);
        for (int i = 0; i < 8; i++) {
            x.pledge(i, 100);
        }
        return x;
    }

    private static HarvestLender sold() {
        HarvestLender x = at(planted(8, 1), 4);
        for (int i = 0; i < 8; i++) {
            x.sell(i, 100);
        }
        return x;
    }

    private static HarvestLender drawn() {
        HarvestLender x = planted(8, 1);
        for (int i = 0; i < 8; i++) {
            x.draw(i, 1000);
        }
        return x;
    }

    private static HarvestLender indebted() {
        HarvestLender x = closed(sold());
        for (int i = 0; i < 8; i++) {
            x.plant(i, 1, 2);
            x.draw(i, 1000);
        }
        return x;
    }

    private static HarvestLender lastSeason() {
        HarvestLender x = with(8, 0);
        for (int season = 0; season < 20; season++) {
            closed(x);
        }
        return at(x, 4);
    }
}
