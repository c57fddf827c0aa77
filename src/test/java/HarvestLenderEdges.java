/**
 * For each sentence of the document that names a boundary case a test of its own: nothing, exactly enough,
 * one more, one less, the first and the last stage and season, and what is over with a season.
 */
public final class HarvestLenderEdges extends Checks {
    private static final int PURSE = HarvestLender.PURSE, COVER = HarvestLender.COVER,
        PLEDGE = HarvestLender.PLEDGE, SALE = HarvestLender.SALE, GROUP = HarvestLender.GROUP;

    public static void main(String[] args) {
        beginnings();
        seasons();
        plantings();
        moneyThatComes();
        drawings();
        interest();
        harvests();
        covers();
        coversBought();
        pledges();
        sales();
        salesInDebt();
        repayments();
        closes();
        purseAtTheClose();
        rolledDebts();
        whatIsRolled();
        instalments();
        debtors();
        groups();
        payers();
        called();
        sums();
        finish();
    }

    // ---- at first

    private static void beginnings() {
        test("it begins with the season 0 at the stage 0, without farmers", () -> {
            HarvestLender x = new HarvestLender();
            due("season", x.season(), 0);
            due("stage", x.stage(), 0);
            due("farmers", x.farmers(), 0);
        });
        test("a need for each stage 0 to 3, 1000 at first", () -> {
            HarvestLender x = new HarvestLender();
            for (int i = 0; i < 12; i++) {
                due("need of " + i / 4 + " at " + i % 4, x.setNeed(i / 4, i % 4, i), 1000);
            }
            for (int i = 0; i < 12; i++) {
                due("need of " + i / 4 + " at " + i % 4, x.setNeed(i / 4, i % 4, 0), i);
            }
        });
        test("a price, 100 at first", () -> {
            HarvestLender x = new HarvestLender();
            for (int crop = 0; crop < 3; crop++) {
                due("price of " + crop, x.setCrop(crop, 7 + crop, 50), 100);
            }
            for (int crop = 0; crop < 3; crop++) {
                due("price of " + crop, x.setCrop(crop, 1, 50), 7 + crop);
            }
        });
        test("a normal yield, 50 at first", () -> {
            HarvestLender x = with(3, 0);
            for (int crop = 0; crop < 3; crop++) {
                x.plant(crop, crop, 1);
            }
            goTo(x, 4);
            for (int crop = 0; crop < 3; crop++) {
                due("grain of the crop " + crop, x.grain(crop, false), 50);
            }
        });
        test("farmers are numbered from 0, at most 8", () -> {
            HarvestLender x = new HarvestLender();
            for (int i = 0; i < 8; i++) {
                due("farmers", x.farmers(), i);
                due("number", x.add(2 - i % 3), i);
            }
            for (int group = 0; group < 3; group++) {
                int any = group;
                thrown("a ninth in " + group, STATE, () -> x.add(any));
            }
            due("farmers", x.farmers(), 8);
        });
        test("a farmer has, all 0 at first", () -> {
            HarvestLender x = with(8, 1);
            for (int i = 0; i < 8; i++) {
                nothing(x, i);
            }
        });
        test("a farmer can be added at the stage 4 and in the season 20, and has nothing then", () -> {
            HarvestLender x = with(1, 0);
            goTo(x, 4);
            due("number", x.add(0), 1);
            nothing(x, 1);
            x.close();
            nothing(x, 1);
            toSeason(x, 20);
            goTo(x, 4);
            due("number", x.add(2), 2);
            nothing(x, 2);
        });
    }

    private static void nothing(HarvestLender x, int farmer) {
        due("limit", x.limit(farmer), 0);
        due("debt", x.debt(farmer), 0);
        due("owes", x.owes(farmer), 0);
        due("instalments", x.instalments(farmer), 0);
        due("purse", x.purse(farmer), 0);
        due("grain", x.grain(farmer, false), 0);
        due("pledged grain", x.grain(farmer, true), 0);
        due("called", x.called(farmer), 0);
        due("charged", x.charged(farmer), 0);
        for (int source = 0; source < 5; source++) {
            due("repaid from " + source, x.repaid(farmer, source), 0);
        }
    }

    // ---- seasons and stages

    private static void seasons() {
        test("next returns the stage, and is refused at the stage 4", () -> {
            HarvestLender x = new HarvestLender();
            for (int stage = 1; stage <= 4; stage++) {
                due("next", x.next(), stage);
                due("stage", x.stage(), stage);
            }
            thrown("next", STATE, x::next);
            thrown("next again", STATE, x::next);
            due("stage", x.stage(), 4);
        });
        test("close is refused if it is not the stage 4", () -> {
            HarvestLender x = new HarvestLender();
            for (int stage = 0; stage < 4; stage++) {
                thrown("close at " + stage, STATE, x::close);
                due("season", x.season(), 0);
                due("stage", x.stage(), stage);
                x.next();
            }
            due("close at 4", x.close(), 1);
        });
        test("then the next season begins at the stage 0", () -> {
            HarvestLender x = with(1, 0);
            goTo(x, 4);
            x.close();
            due("season", x.season(), 1);
            due("stage", x.stage(), 0);
            due("next", x.next(), 1);
        });
        test("close is refused in the season 20, at every stage", () -> {
            HarvestLender x = new HarvestLender();
            toSeason(x, 19);
            goTo(x, 4);
            due("close of the season 19", x.close(), 20);
            for (int stage = 0; stage < 4; stage++) {
                thrown("close at " + stage, STATE, x::close);
                due("next", x.next(), stage + 1);
            }
            thrown("close at 4", STATE, x::close);
            due("season", x.season(), 20);
            due("stage", x.stage(), 4);
            thrown("next", STATE, x::next);
        });
        test("the season 20 is a season but for its close", () -> {
            HarvestLender x = with(1, 0);
            toSeason(x, 20);
            due("plant", x.plant(0, 2, 1), 1000);
            due("cover", x.cover(0, 90), 0);
            due("draw", x.draw(0, 1000), 0);
            due("setYield", x.setYield(0, 80), 100);
            goTo(x, 4);
            due("debt: 1081 less a cover of 500", x.debt(0), 581);
            due("grain", x.grain(0, false), 40);
            due("pledge", x.pledge(0, 10), 600);
            due("sell", x.sell(0, 40), 4000);
            due("purse", x.purse(0), 19 + 3000 + 400);
            thrown("close", STATE, x::close);
            due("purse is as it was", x.purse(0), 3419);
        });
        test("needs, prices and normal yields can be changed at each stage, the season 20 too, and count at once", () -> {
            HarvestLender x = with(1, 0);
            for (int season = 0; season <= 20; season += 20) {
                toSeason(x, season);
                x.plant(0, 0, 1);
                for (int stage = 0; stage <= 4; stage++) {
                    x.setNeed(0, 0, stage);
                    due("limit", x.limit(0), stage + 1000 * Math.min(stage, 3));
                    due("need", x.setNeed(0, 0, 1000), stage);
                    x.setCrop(0, 10 + stage, 20 + stage);
                    due("price", x.setCrop(0, 10 + stage, 20 + stage), 10 + stage);
                    if (stage < 4) {
                        x.next();
                    }
                }
                due("harvested with the normal yield of the stage 3", x.grain(0, false), 23);
                due("sold at the price of the stage 4", x.sell(0, 23), 23 * 14);
            }
        });
        test("needs, prices and normal yields are of no season: they stay over the close", () -> {
            HarvestLender x = with(1, 0);
            x.setNeed(1, 3, 7);
            x.setCrop(1, 8, 9);
            goTo(x, 4);
            x.close();
            due("limit", x.plant(0, 1, 1), 1000);
            goTo(x, 4);
            due("limit with the need", x.limit(0), 3007);
            due("grain by the normal yield", x.grain(0, false), 9);
            due("price", x.sell(0, 2), 16);
            due("need before", x.setNeed(1, 3, 1000), 7);
            due("price before", x.setCrop(1, 100, 50), 8);
        });
        test("20 seasons without farmers", () -> {
            HarvestLender x = new HarvestLender();
            toSeason(x, 20);
            due("season", x.season(), 20);
            due("farmers", x.farmers(), 0);
            thrown("debt", INDEX, () -> x.debt(0));
        });
    }

    // ---- plant

    private static void plantings() {
        test("plant returns the limit then", () -> {
            HarvestLender x = with(2, 0);
            x.setNeed(0, 0, 100000);
            x.setNeed(1, 0, 0);
            due("the most", x.plant(0, 0, 50), 5000000);
            due("nothing", x.plant(1, 1, 1), 0);
        });
        test("plant is refused if it is not the stage 0", () -> {
            HarvestLender x = with(1, 0);
            for (int stage = 1; stage <= 4; stage++) {
                x.next();
                thrown("plant at " + stage, STATE, () -> x.plant(0, 0, 1));
            }
            x.close();
            due("at the stage 0", x.plant(0, 0, 1), 1000);
        });
        test("in a season a farmer can plant one crop", () -> {
            HarvestLender x = with(2, 0);
            x.plant(0, 0, 2);
            for (int crop = 0; crop < 3; crop++) {
                int any = crop;
                thrown("plant " + crop, STATE, () -> x.plant(0, any, 1));
            }
            due("limit", x.limit(0), 2000);
            due("another farmer", x.plant(1, 0, 1), 1000);
            goTo(x, 4);
            due("one harvest", x.grain(0, false), 100);
            x.close();
            due("in the next season", x.plant(0, 0, 1), 1000);
        });
        test("plant is refused if the farmer has grain of another crop: one unit of it, pledged or not", () -> {
            for (int pledged = 0; pledged <= 1; pledged++) {
                HarvestLender x = grown(50);
                x.sell(0, 49);
                if (pledged == 1) {
                    x.pledge(0, 1);
                }
                x.close();
                thrown("the crop 1", STATE, () -> x.plant(0, 1, 1));
                thrown("the crop 2", STATE, () -> x.plant(0, 2, 1));
                due("the same crop", x.plant(0, 0, 1), 1000);
            }
        });
        test("another crop can be planted behind the last unit", () -> {
            HarvestLender x = grown(50);
            x.close();
            x.sell(0, 49);
            thrown("one is left", STATE, () -> x.plant(0, 1, 1));
            x.sell(0, 1);
            due("none is left", x.plant(0, 1, 1), 1000);
            goTo(x, 4);
            x.setCrop(0, 5000, 50);
            x.setCrop(1, 3, 50);
            due("the grain is of the other crop now", x.sell(0, 1), 3);
        });
        test("grain of another farmer refuses nothing", () -> {
            HarvestLender x = grown(50);
            x.close();
            due("the crop 1", x.plant(1, 1, 1), 1000);
            thrown("but for its owner", STATE, () -> x.plant(0, 1, 1));
        });
        test("another crop can be planted behind a harvest of nothing", () -> {
            HarvestLender x = with(1, 0);
            x.plant(0, 0, 50);
            x.setYield(0, 0);
            goTo(x, 4);
            due("grain", x.grain(0, false), 0);
            x.close();
            due("the crop 1", x.plant(0, 1, 1), 1000);
        });
        test("limits are of the season", () -> {
            HarvestLender x = with(1, 0);
            x.plant(0, 0, 50);
            x.draw(0, 50000);
            goTo(x, 4);
            due("at the stage 4", x.limit(0), 200000);
            x.close();
            due("limit", x.limit(0), 0);
            thrown("draw", STATE, () -> x.draw(0, 1));
            due("limit", x.plant(0, 0, 1), 1000);
            due("draw", x.draw(0, 1000), 0);
        });
        test("without a word the yield is 100 percent; yields are of the season", () -> {
            HarvestLender x = with(1, 0);
            due("none was told", x.setYield(0, 70), 100);
            x.plant(0, 0, 1);
            due("as told", x.setYield(0, 0), 70);
            goTo(x, 4);
            due("no grain", x.grain(0, false), 0);
            x.close();
            x.plant(0, 0, 1);
            goTo(x, 4);
            due("without a word", x.grain(0, false), 50);
            x.close();
            due("none was told", x.setYield(0, 200), 100);
        });
        test("without a word there is no cover; covers are of the season", () -> {
            HarvestLender x = with(1, 0);
            x.plant(0, 0, 1);
            x.setYield(0, 0);
            goTo(x, 4);
            due("purse", x.purse(0), 0);
            x.close();
            x.plant(0, 0, 1);
            due("none before", x.cover(0, 90), 0);
            x.setYield(0, 0);
            goTo(x, 4);
            due("50 units of 100, 90 percent", x.purse(0), 4500);
            x.close();
            x.plant(0, 0, 1);
            x.setYield(0, 0);
            goTo(x, 4);
            due("no cover any more", x.purse(0), 4500);
            x.close();
            x.plant(0, 0, 1);
            due("none before", x.cover(0, 1), 0);
        });
        test("setYield is refused at the stage 4 alone, and needs no planting", () -> {
            HarvestLender x = with(1, 0);
            for (int stage = 0; stage < 4; stage++) {
                due("before", x.setYield(0, stage), stage == 0 ? 100 : stage - 1);
                x.next();
            }
            thrown("setYield", STATE, () -> x.setYield(0, 100));
            x.close();
            due("before", x.setYield(0, 200), 100);
            due("before", x.setYield(0, 0), 200);
            due("before", x.setYield(0, 0), 0);
        });
    }

    // ---- money that comes

    private static void moneyThatComes() {
        for (int debt : new int[] {0, 1, 9, 10, 11, 49}) {
            int comes = 10;
            int lowers = Math.min(debt, comes);
            test("what comes from SALE lowers the debt first, as far as there is one: " + debt, () -> {
                HarvestLender x = grownOwing(debt);
                x.setCrop(0, 1, 50);
                x.sell(0, comes);
                due("debt", x.debt(0), debt - lowers);
                due("purse", x.purse(0), comes - lowers);
                due("repaid", x.repaid(0, SALE), lowers);
            });
            test("what comes from PLEDGE lowers the debt first, as far as there is one: " + debt, () -> {
                HarvestLender x = grownOwing(debt);
                x.setCrop(0, 17, 50);
                due("60 percent of 17, rounded down", x.pledge(0, 1), comes);
                due("debt", x.debt(0), debt - lowers);
                due("purse", x.purse(0), comes - lowers);
                due("repaid", x.repaid(0, PLEDGE), lowers);
                due("owes", x.owes(0), debt - lowers + comes);
            });
            test("what comes from COVER lowers the debt first, as far as there is one: " + debt, () -> {
                HarvestLender x = with(1, 0);
                x.setCrop(0, 1, 100);
                x.plant(0, 0, 1);
                x.cover(0, comes);
                x.setYield(0, 0);
                if (debt > 0) {
                    x.draw(0, debt);
                }
                goTo(x, 4);
                due("debt", x.debt(0), debt - lowers);
                due("purse", x.purse(0), comes - lowers);
                due("repaid", x.repaid(0, COVER), lowers);
            });
        }
    }

    // ---- drawings

    private static void drawings() {
        test("the limit is the needs up to the present stage (up to 3), added, times the hectares", () -> {
            HarvestLender x = with(1, 0);
            int[] needs = {1, 20, 300, 4000};
            for (int stage = 0; stage < 4; stage++) {
                x.setNeed(2, stage, needs[stage]);
            }
            x.plant(0, 2, 7);
            int[] limits = {7, 147, 2247, 30247, 30247};
            for (int stage = 0; stage <= 4; stage++) {
                due("at the stage " + stage, x.limit(0), limits[stage]);
                if (stage < 4) {
                    x.next();
                }
            }
        });
        test("the limit is 0 without a planted crop, at each stage", () -> {
            HarvestLender x = with(1, 0);
            for (int stage = 0; stage <= 4; stage++) {
                due("at the stage " + stage, x.limit(0), 0);
                thrown("draw", STATE, () -> x.draw(0, 1));
                if (stage < 4) {
                    x.next();
                }
            }
        });
        test("all that is drawn is at most the limit: exactly it, and one more, at each stage", () -> {
            HarvestLender x = with(1, 0);
            for (int stage = 0; stage < 4; stage++) {
                x.setNeed(0, stage, 10);
            }
            x.plant(0, 0, 1);
            for (int stage = 0; stage < 4; stage++) {
                thrown("one more at " + stage, STATE, () -> x.draw(0, 11));
                due("less by one at " + stage, x.draw(0, 9), 1);
                thrown("one more at " + stage, STATE, () -> x.draw(0, 2));
                due("exactly at " + stage, x.draw(0, 1), 0);
                thrown("one more at " + stage, STATE, () -> x.draw(0, 1));
                due("debt", x.debt(0), 10 + 10 * stage);
                x.next();
            }
        });
        test("draw is refused at the stage 4, whatever the limit leaves", () -> {
            HarvestLender x = with(1, 0);
            x.plant(0, 0, 1);
            goTo(x, 3);
            due("at the stage 3", x.draw(0, 1), 3999);
            x.next();
            due("limit", x.limit(0), 4000);
            thrown("draw", STATE, () -> x.draw(0, 1));
        });
        test("what is drawn counts, not the debt: what is repaid can't be drawn again", () -> {
            HarvestLender x = savers(1000);
            x.plant(0, 0, 1);
            due("all", x.draw(0, 1000), 0);
            due("debt", x.repay(0, 1000), 0);
            thrown("draw", STATE, () -> x.draw(0, 1));
        });
        test("an old debt doesn't count as drawn in this season", () -> {
            HarvestLender x = with(1, 0);
            x.plant(0, 0, 1);
            x.draw(0, 1000);
            goTo(x, 4);
            x.sell(0, 1);
            x.close();
            due("debt", x.debt(0), 981);
            x.plant(0, 0, 1);
            due("all of the limit", x.draw(0, 1000), 0);
            due("debt", x.debt(0), 1981);
        });
        test("what is drawn makes the debt greater, and does not come to the purse", () -> {
            HarvestLender x = with(1, 0);
            x.plant(0, 0, 1);
            x.draw(0, 1);
            due("debt", x.debt(0), 1);
            due("purse", x.purse(0), 0);
            due("charged", x.charged(0), 1);
        });
        test("with needs of 0 nothing can be drawn", () -> {
            HarvestLender x = with(1, 0);
            x.setNeed(0, 0, 0);
            due("limit", x.plant(0, 0, 50), 0);
            thrown("draw", STATE, () -> x.draw(0, 1));
            x.next();
            due("the next need", x.draw(0, 50000), 0);
        });
        test("a limit that has fallen below what is drawn", () -> {
            HarvestLender x = with(1, 0);
            x.plant(0, 0, 1);
            x.draw(0, 1000);
            x.setNeed(0, 0, 400);
            due("limit", x.limit(0), 400);
            thrown("draw", STATE, () -> x.draw(0, 1));
            due("debt", x.debt(0), 1000);
            x.setNeed(0, 0, 1001);
            due("one more than drawn", x.draw(0, 1), 0);
        });
        test("the largest limit", () -> {
            HarvestLender x = with(1, 0);
            for (int stage = 0; stage < 4; stage++) {
                x.setNeed(1, stage, 100000);
            }
            x.plant(0, 1, 50);
            goTo(x, 3);
            due("limit", x.limit(0), 20000000);
            thrown("one more", STATE, () -> x.draw(0, 20000001));
            thrown("the largest argument", STATE, () -> x.draw(0, 100000000));
            due("all", x.draw(0, 20000000), 0);
            due("debt", x.debt(0), 20000000);
        });
    }

    // ---- interest

    private static void interest() {
        int[] debts = {1, 49, 50, 51, 99, 100, 149, 150, 1000};
        for (int debt : debts) {
            test("2 percent of a debt are added, rounded down: " + debt, () -> {
                HarvestLender x = with(1, 0);
                x.plant(0, 0, 1);
                x.draw(0, debt);
                x.next();
                due("debt", x.debt(0), debt + debt / 50);
                due("charged", x.charged(0), debt + debt / 50);
            });
        }
        test("no debt, no interest", () -> {
            HarvestLender x = with(1, 0);
            goTo(x, 4);
            due("debt", x.debt(0) + x.charged(0), 0);
        });
        test("interest comes with each of the stages 1 to 4, and not with the close", () -> {
            HarvestLender x = with(1, 0);
            x.plant(0, 0, 1);
            x.draw(0, 100);
            int[] debts4 = {102, 104, 106, 108};
            for (int stage = 1; stage <= 4; stage++) {
                x.next();
                due("debt at " + stage, x.debt(0), debts4[stage - 1]);
            }
            x.close();
            due("debt", x.debt(0), 108);
            due("charged", x.charged(0), 108);
        });
        test("to each debt, of the first farmer and of the eighth", () -> {
            HarvestLender x = with(8, 0);
            for (int i = 0; i < 8; i++) {
                x.plant(i, 0, 1);
                x.draw(i, 50 + 50 * i);
            }
            x.next();
            for (int i = 0; i < 8; i++) {
                due("debt of " + i, x.debt(i), 51 + 51 * i);
            }
        });
        test("to each debt, of a farmer who has not planted in this season too", () -> {
            HarvestLender x = with(1, 0);
            x.plant(0, 0, 1);
            x.draw(0, 100);
            goTo(x, 4);
            x.close();
            due("debt", x.debt(0), 108);
            x.next();
            due("debt", x.debt(0), 110);
        });
        test("to each debt, of a farmer who has instalments or a pledge debt too", () -> {
            HarvestLender x = rolledFrom(30);
            x.plant(0, 0, 1);
            x.draw(0, 100);
            goTo(x, 4);
            due("debt", x.debt(0), 108);
            x.setCrop(0, 10, 50);
            due("pledge", x.pledge(0, 1), 6);
            x.close();
            due("debt with an instalment", x.debt(0), 112);
            x.next();
            due("debt", x.debt(0), 114);
            due("owes: an interest of 2 on the debt alone", x.owes(0), 114 + 20 + 6);
        });
        test("interest of the stage 4 comes before what the cover pays", () -> {
            HarvestLender x = with(1, 0);
            x.setCrop(0, 1, 100);
            x.plant(0, 0, 1);
            x.cover(0, 50);
            x.setYield(0, 0);
            goTo(x, 3);
            x.draw(0, 50);
            x.next();
            due("debt", x.debt(0), 1);
            due("purse", x.purse(0), 0);
        });
        test("no interest on pledge debts and instalments", () -> {
            HarvestLender x = grown(50);
            x.pledge(0, 50);
            x.close();
            x.plant(0, 0, 1);
            x.setYield(0, 59);
            x.draw(0, 1000);
            goTo(x, 4);
            due("interest on the debt alone", x.owes(0), 1081 + 3000);
            HarvestLender y = rolledFrom(3000);
            goTo(y, 4);
            due("no interest on instalments", y.owes(0), 3000);
            due("charged", y.charged(0), 3000);
        });
    }

    // ---- harvests

    private static void harvests() {
        test("fields are harvested with the stage 4, not before and not again", () -> {
            HarvestLender x = with(1, 0);
            x.plant(0, 0, 1);
            for (int stage = 1; stage < 4; stage++) {
                x.next();
                due("grain at " + stage, x.grain(0, false), 0);
            }
            x.next();
            due("grain", x.grain(0, false), 50);
            x.close();
            due("grain", x.grain(0, false), 50);
            goTo(x, 4);
            due("grain", x.grain(0, false), 50);
        });
        test("all planted fields, of the first farmer and of the eighth, and no others", () -> {
            HarvestLender x = with(8, 0);
            for (int i = 0; i < 8; i++) {
                x.setYield(i, 200);
                if (i != 3) {
                    x.plant(i, i % 3, 1 + i);
                }
            }
            goTo(x, 4);
            for (int i = 0; i < 8; i++) {
                due("grain of " + i, x.grain(i, false), i == 3 ? 0 : 100 * (1 + i));
            }
        });
        int[][] fields = {{1, 1, 99, 0}, {1, 1, 100, 1}, {1, 1, 199, 1}, {1, 1, 200, 2}, {50, 1, 1, 0}, {50, 1, 2, 1},
            {50, 1, 3, 1}, {50, 1, 4, 2}, {1, 100, 1, 1}, {3, 33, 1, 0}, {3, 33, 2, 1}, {50, 100, 0, 0},
            {50, 0, 200, 0}, {50, 100, 200, 10000}};
        for (int[] field : fields) {
            test("hectares " + field[0] + " times normal yield " + field[1] + " times yield " + field[2]
                + " divided by 100, rounded down", () -> {
                HarvestLender x = with(1, 0);
                x.setCrop(0, 100, field[1]);
                x.plant(0, 0, field[0]);
                x.setYield(0, field[2]);
                goTo(x, 4);
                due("grain", x.grain(0, false), field[3]);
                due("pledged", x.grain(0, true), 0);
                due("purse", x.purse(0), 0);
            });
        }
        test("the grain grows: what there was, pledged or not, stays", () -> {
            HarvestLender x = grown(50);
            x.pledge(0, 20);
            x.close();
            x.plant(0, 0, 1);
            goTo(x, 4);
            due("grain", x.grain(0, false), 100);
            due("pledged", x.grain(0, true), 20);
        });
    }

    private static void covers() {
        test("cover is refused if it is not the stage 0, or the farmer has not planted", () -> {
            HarvestLender x = with(2, 0);
            thrown("not planted", STATE, () -> x.cover(0, 1));
            x.plant(0, 0, 1);
            thrown("another one has planted", STATE, () -> x.cover(1, 1));
            due("percent before", x.cover(0, 90), 0);
            due("percent before", x.cover(0, 1), 90);
            for (int stage = 1; stage <= 4; stage++) {
                x.next();
                thrown("cover at " + stage, STATE, () -> x.cover(0, 2));
            }
            x.close();
            thrown("planted in the season before", STATE, () -> x.cover(0, 1));
        });
        // percent, yield, what 100 units of 100 cents bring
        int[][] covers = {{1, 0, 100}, {1, 1, 0}, {1, 2, 0}, {60, 59, 100}, {60, 60, 0}, {60, 61, 0}, {90, 0, 9000},
            {90, 89, 100}, {90, 90, 0}, {90, 91, 0}, {90, 200, 0}};
        for (int[] cover : covers) {
            test("a cover of " + cover[0] + " pays if the yield " + cover[1] + " is below its percent", () -> {
                HarvestLender x = with(1, 0);
                x.setCrop(0, 100, 100);
                x.plant(0, 0, 1);
                x.cover(0, cover[0]);
                x.setYield(0, cover[1]);
                goTo(x, 3);
                due("purse before", x.purse(0), 0);
                x.next();
                due("purse", x.purse(0), cover[2]);
                due("grain", x.grain(0, false), cover[1]);
                due("repaid", x.repaid(0, COVER), 0);
            });
        }
        // hectares, normal yield, price, percent, yield, cents
        int[][] sums = {{1, 1, 1, 90, 0, 0}, {1, 1, 2, 90, 0, 1}, {1, 1, 99, 2, 1, 0}, {1, 1, 100, 2, 1, 1},
            {50, 1, 1, 2, 0, 1}, {50, 1, 1, 3, 0, 1}, {50, 1, 1, 4, 0, 2}, {50, 0, 5000, 90, 0, 0},
            {50, 100, 5000, 90, 0, 22500000}};
        for (int[] sum : sums) {
            test("what a cover pays is rounded down: " + sum[5], () -> {
                HarvestLender x = with(1, 0);
                x.setCrop(2, sum[2], sum[1]);
                x.plant(0, 2, sum[0]);
                x.cover(0, sum[3]);
                x.setYield(0, sum[4]);
                goTo(x, 4);
                due("purse", x.purse(0), sum[5]);
            });
        }
    }

    private static void coversBought() {
        for (int[] percents : new int[][] {{1, 90}, {90, 1}, {50, 50}}) {
            test("a cover bought again: the last one counts, " + percents[1] + " behind " + percents[0], () -> {
                HarvestLender x = with(1, 0);
                x.setCrop(0, 100, 100);
                x.plant(0, 0, 1);
                due("none before", x.cover(0, percents[0]), 0);
                due("before", x.cover(0, percents[1]), percents[0]);
                x.setYield(0, 0);
                goTo(x, 4);
                due("purse", x.purse(0), 100 * percents[1]);
            });
        }
        test("cover can be bought behind a told yield, the lowest too", () -> {
            HarvestLender x = with(1, 0);
            x.setYield(0, 0);
            x.plant(0, 0, 1);
            due("none before", x.cover(0, 90), 0);
            goTo(x, 4);
            due("purse", x.purse(0), 4500);
        });
        test("what a cover pays lowers the debt, and neither a pledge debt nor instalments", () -> {
            HarvestLender x = grown(50);
            x.pledge(0, 1);
            x.close();
            x.plant(0, 0, 1);
            x.cover(0, 90);
            x.setYield(0, 0);
            goTo(x, 4);
            due("purse", x.purse(0), 60 + 4500);
            due("the pledge debt", x.owes(0), 60);
            HarvestLender y = rolledFrom(30);
            y.plant(0, 0, 1);
            y.cover(0, 90);
            y.setYield(0, 0);
            goTo(y, 4);
            due("purse", y.purse(0), 4500);
            due("the instalments", y.owes(0), 30);
            due("repaid", x.repaid(0, COVER) + y.repaid(0, COVER), 0);
        });
    }

    // ---- grain

    private static void pledges() {
        test("pledge is refused without so much grain that is not pledged", () -> {
            HarvestLender x = grown(50);
            thrown("one more than all", STATE, () -> x.pledge(0, 51));
            due("some", x.pledge(0, 20), 1200);
            thrown("one more than the rest", STATE, () -> x.pledge(0, 31));
            due("the rest", x.pledge(0, 30), 1800);
            thrown("one more", STATE, () -> x.pledge(0, 1));
            due("pledged", x.grain(0, true), 50);
            due("all", x.grain(0, false), 50);
            due("both pledge debts", x.owes(0), 3000);
            thrown("a farmer without grain", STATE, () -> x.pledge(1, 1));
        });
        test("all grain at once can be pledged", () -> {
            HarvestLender x = grown(50);
            due("cents", x.pledge(0, 50), 3000);
            due("pledged", x.grain(0, true), 50);
        });
        // units, price, cents
        int[][] pledges = {{1, 1, 0}, {2, 1, 1}, {3, 1, 1}, {4, 1, 2}, {5, 1, 3}, {1, 2, 1}, {1, 5, 3}, {7, 3, 12},
            {50, 5000, 150000}};
        for (int[] pledge : pledges) {
            test("60 percent of the price of the units, rounded down: " + pledge[2], () -> {
                HarvestLender x = grown(50);
                x.setCrop(0, pledge[1], 50);
                due("cents", x.pledge(0, pledge[0]), pledge[2]);
                due("purse", x.purse(0), pledge[2]);
                due("the pledge debt grows by as much", x.owes(0), pledge[2]);
                due("it is no debt", x.debt(0) + x.charged(0), 0);
            });
        }
        test("the price of many units is above what an int holds, taken 60 times", () -> {
            HarvestLender x = grown(10000);
            x.setCrop(0, 5000, 50);
            due("cents", x.pledge(0, 10000), 30000000);
            due("owes", x.owes(0), 30000000);
        });
        test("old grain can be pledged and sold at each stage", () -> {
            HarvestLender x = grown(50);
            x.close();
            for (int stage = 0; stage <= 4; stage++) {
                due("pledge at " + stage, x.pledge(0, 1), 60);
                due("sell at " + stage, x.sell(0, 2), 200);
                if (stage < 4) {
                    x.next();
                }
            }
            due("grain", x.grain(0, false), 40);
        });
    }

    private static void sales() {
        test("sell is refused without so much grain", () -> {
            HarvestLender x = grown(50);
            thrown("one more than all", STATE, () -> x.sell(0, 51));
            due("some", x.sell(0, 20), 2000);
            thrown("one more than the rest", STATE, () -> x.sell(0, 31));
            due("the rest", x.sell(0, 30), 3000);
            thrown("one more", STATE, () -> x.sell(0, 1));
            due("grain", x.grain(0, false), 0);
            thrown("a farmer without grain", STATE, () -> x.sell(1, 1));
        });
        test("all grain at once can be sold, pledged or not", () -> {
            HarvestLender x = grown(50);
            x.pledge(0, 49);
            due("price of all these units", x.sell(0, 50), 5000);
            due("grain", x.grain(0, false), 0);
            due("pledged", x.grain(0, true), 0);
            due("purse", x.purse(0), 5000);
        });
        test("those that are not pledged go first: exactly those, and one more", () -> {
            HarvestLender x = grown(50);
            x.pledge(0, 20);
            x.sell(0, 30);
            due("pledged", x.grain(0, true), 20);
            due("owes", x.owes(0), 1200);
            HarvestLender y = grown(50);
            y.pledge(0, 20);
            y.sell(0, 31);
            due("pledged", y.grain(0, true), 19);
            due("owes", y.owes(0), 1100);
        });
        // price of the last pledged unit, pledge debt, debt and purse behind its sale; the pledge debt was 6
        int[][] sales = {{1, 5, 0}, {5, 1, 0}, {6, 0, 0}, {7, 0, 1}, {10, 0, 4}};
        for (int[] sale : sales) {
            test("the price of pledged ones lowers the pledge debt, the rest comes from SALE: " + sale[0], () -> {
                HarvestLender x = grown(50);
                x.setCrop(0, 10, 50);
                x.pledge(0, 1);
                x.sell(0, 49);
                due("purse", x.purse(0), 496);
                x.setCrop(0, sale[0], 50);
                due("price", x.sell(0, 1), sale[0]);
                due("what is left is added to the debt", x.debt(0), sale[1]);
                due("and charged", x.charged(0), sale[1]);
                due("owes", x.owes(0), sale[1]);
                due("purse", x.purse(0), 496 + sale[2]);
                due("the pledge debt is no debt that was repaid", x.repaid(0, SALE), 0);
            });
        }
        test("what is left of the pledge debt stays while a pledged unit is left", () -> {
            HarvestLender x = grown(50);
            x.pledge(0, 50);
            x.setCrop(0, 1, 50);
            x.sell(0, 49);
            due("pledged", x.grain(0, true), 1);
            due("debt", x.debt(0), 0);
            due("owes", x.owes(0), 2951);
            x.sell(0, 1);
            due("debt", x.debt(0), 2950);
            due("owes", x.owes(0), 2950);
        });
        test("what is left is added behind all that: the sale doesn't lower it", () -> {
            HarvestLender x = grown(50);
            x.setCrop(0, 10, 50);
            x.sell(0, 48);
            x.pledge(0, 1);
            x.setCrop(0, 1, 50);
            due("purse", x.purse(0), 486);
            x.sell(0, 2);
            due("debt", x.debt(0), 5);
            due("purse", x.purse(0), 487);
            due("repaid", x.repaid(0, SALE), 0);
        });
        test("a pledge debt of 0 leaves nothing, and the price of its unit comes wholly", () -> {
            HarvestLender x = grown(50);
            x.setCrop(0, 1, 50);
            due("60 percent of 1", x.pledge(0, 1), 0);
            x.sell(0, 50);
            due("purse", x.purse(0), 50);
            due("debt", x.debt(0), 0);
        });
        test("a pledge debt that is paid leaves the other units pledged", () -> {
            HarvestLender x = grown(50);
            x.pledge(0, 50);
            x.setCrop(0, 5000, 50);
            x.sell(0, 1);
            due("owes", x.owes(0), 0);
            due("pledged", x.grain(0, true), 49);
            due("purse", x.purse(0), 3000 + 2000);
            thrown("pledge", STATE, () -> x.pledge(0, 1));
            x.setCrop(0, 1, 50);
            x.sell(0, 49);
            due("purse", x.purse(0), 5049);
            due("debt", x.debt(0), 0);
        });
        test("the most grain in a season at the highest price", () -> {
            HarvestLender x = grown(10000);
            x.setCrop(0, 5000, 50);
            due("price", x.sell(0, 10000), 50000000);
            due("purse", x.purse(0), 50000000);
        });
    }

    private static void salesInDebt() {
        for (int debt : new int[] {0, 1, 3, 4, 5, 20}) {
            int lowers = Math.min(debt, 4);
            test("the rest of the price of pledged ones lowers the debt first: 4 for " + debt, () -> {
                HarvestLender x = pledgedOneOf(1, debt);
                x.sell(0, 1);
                due("debt", x.debt(0), debt - lowers);
                due("owes", x.owes(0), debt - lowers);
                due("purse", x.purse(0), 4 - lowers);
                due("repaid", x.repaid(0, SALE), lowers);
                due("charged", x.charged(0), debt + 6);
            });
        }
        for (int debt : new int[] {0, 1, 9, 10, 11, 13, 14, 15, 30}) {
            int lowers = Math.min(debt, 14);
            test("a sale of both kinds: 10, and 4 behind the pledge debt, for " + debt, () -> {
                HarvestLender x = pledgedOneOf(2, debt);
                due("price of all these units", x.sell(0, 2), 20);
                due("debt", x.debt(0), debt - lowers);
                due("owes", x.owes(0), debt - lowers);
                due("purse", x.purse(0), 14 - lowers);
                due("repaid", x.repaid(0, SALE), lowers);
            });
        }
        test("pledges at two prices make one pledge debt, and any pledged unit lowers it", () -> {
            HarvestLender x = grown(50);
            x.sell(0, 48);
            due("at 100", x.pledge(0, 1), 60);
            x.setCrop(0, 10, 50);
            due("at 10", x.pledge(0, 1), 6);
            due("owes", x.owes(0), 66);
            x.setCrop(0, 50, 50);
            x.sell(0, 1);
            due("owes", x.owes(0), 16);
            due("no debt while one is pledged", x.debt(0), 0);
            x.sell(0, 1);
            due("owes", x.owes(0), 0);
            due("the rest comes", x.purse(0), 4800 + 66 + 34);
        });
    }

    // ---- repay

    private static void repayments() {
        test("repay is refused if the debt is less", () -> {
            HarvestLender x = savers(100);
            thrown("no debt", STATE, () -> x.repay(0, 1));
            x.plant(0, 0, 1);
            x.draw(0, 10);
            thrown("one more", STATE, () -> x.repay(0, 11));
            due("exactly", x.repay(0, 10), 0);
            due("purse", x.purse(0), 90);
            thrown("none is left", STATE, () -> x.repay(0, 1));
        });
        test("repay is refused if the purse is less", () -> {
            HarvestLender x = savers(10, 0);
            x.plant(0, 0, 1);
            x.draw(0, 40);
            thrown("one more", STATE, () -> x.repay(0, 11));
            due("exactly", x.repay(0, 10), 30);
            due("purse", x.purse(0), 0);
            thrown("none is left", STATE, () -> x.repay(0, 1));
            x.plant(1, 0, 1);
            x.draw(1, 1);
            thrown("no purse", STATE, () -> x.repay(1, 1));
        });
        test("repay of a debt that is as much as the purse", () -> {
            HarvestLender x = savers(10);
            x.plant(0, 0, 1);
            x.draw(0, 10);
            thrown("one more than both", STATE, () -> x.repay(0, 11));
            due("debt", x.repay(0, 10), 0);
            due("purse", x.purse(0), 0);
            due("repaid", x.repaid(0, PURSE), 10);
        });
        test("repay at each stage", () -> {
            HarvestLender x = savers(100);
            x.plant(0, 0, 1);
            x.draw(0, 40);
            for (int stage = 0; stage <= 4; stage++) {
                due("debt at " + stage, x.repay(0, 1), 39 - stage);
                if (stage < 4) {
                    x.next();
                }
            }
        });
        test("repay neither touches pledge debts nor instalments", () -> {
            HarvestLender x = grown(50);
            x.pledge(0, 1);
            thrown("a pledge debt alone", STATE, () -> x.repay(0, 1));
            HarvestLender y = rolledFrom(3);
            y.plant(0, 0, 1);
            goTo(y, 4);
            y.sell(0, 50);
            thrown("instalments alone", STATE, () -> y.repay(0, 1));
            due("owes", y.owes(0), 3);
        });
        test("the largest cents of repay", () -> {
            HarvestLender x = with(1, 0);
            x.setCrop(0, 5000, 100);
            for (int season = 0; season < 4; season++) {
                x.plant(0, 0, 50);
                x.setYield(0, 200);
                goTo(x, 4);
                x.close();
            }
            due("pledge", x.pledge(0, 40000), 120000000);
            x.setCrop(0, 1, 100);
            x.sell(0, 40000);
            due("debt", x.debt(0), 119960000);
            thrown("beyond", ARGUMENT, () -> x.repay(0, 100000001));
            due("debt then", x.repay(0, 100000000), 19960000);
            due("purse", x.purse(0), 20000000);
            thrown("both are less", STATE, () -> x.repay(0, 100000000));
        });
    }

    // ---- the close

    private static void closes() {
        test("a close with nothing to settle", () -> {
            HarvestLender x = with(8, 0);
            goTo(x, 4);
            due("season", x.close(), 1);
            for (int i = 0; i < 8; i++) {
                nothing(x, i);
            }
        });
        test("grain, pledges and purses stay over the close", () -> {
            HarvestLender x = grown(50);
            x.pledge(0, 10);
            x.close();
            due("grain", x.grain(0, false), 50);
            due("pledged", x.grain(0, true), 10);
            due("purse", x.purse(0), 600);
            due("the pledge debt is not repaid", x.owes(0), 600);
            due("debt", x.debt(0), 0);
        });
    }

    private static void purseAtTheClose() {
        int[][] pairs = {{0, 10}, {1, 10}, {9, 10}, {10, 10}, {11, 10}, {10, 0}, {0, 0}, {300, 20000}, {20000, 300}};
        for (int[] pair : pairs) {
            test("the debt is repaid from PURSE, as far as the purse goes: " + pair[0] + " for " + pair[1], () -> {
                HarvestLender x = atClose(new int[] {pair[0]}, new int[] {pair[1]}, 100);
                int repaid = Math.min(pair[0], pair[1]);
                x.close();
                due("debt", x.debt(0), pair[1] - repaid);
                due("purse", x.purse(0), pair[0] - repaid);
                due("repaid", x.repaid(0, PURSE), repaid);
            });
            test("before it is rolled: " + pair[0] + " for " + pair[1], () -> {
                HarvestLender x = atClose(new int[] {pair[0]}, new int[] {pair[1]}, 59);
                int repaid = Math.min(pair[0], pair[1]);
                x.close();
                due("debt", x.debt(0), 0);
                due("owes", x.owes(0), pair[1] - repaid);
                due("instalments", x.instalments(0), pair[1] > repaid ? 3 : 0);
                due("purse", x.purse(0), pair[0] - repaid);
                due("repaid", x.repaid(0, PURSE), repaid);
            });
        }
        test("step 1 is for all farmers before the groups pay", () -> {
            HarvestLender x = atClose(new int[] {0, 100}, new int[] {10, 95}, 100);
            x.close();
            due("the second one's own debt", x.debt(1), 0);
            due("what he has left", x.called(1), 5);
            due("the first one's debt", x.debt(0), 5);
            due("purse", x.purse(1), 0);
        });
    }

    private static void rolledDebts() {
        for (int yield : new int[] {0, 1, 59, 60, 61, 100, 200}) {
            boolean rolled = yield < 60;
            test("a debt is rolled if the yield was below 60: " + yield, () -> {
                HarvestLender x = atClose(new int[] {0, 100}, new int[] {9, 0}, yield);
                x.close();
                due("instalments", x.instalments(0), rolled ? 3 : 0);
                due("debt", x.debt(0), 0);
                due("owes", x.owes(0), rolled ? 9 : 0);
                due("the group pays otherwise", x.called(1), rolled ? 0 : 9);
                due("GROUP", x.repaid(0, GROUP), rolled ? 0 : 9);
            });
        }
        test("a debt is not rolled if the farmer had not planted", () -> {
            HarvestLender x = owingOnly(9);
            x.setYield(0, 0);
            goTo(x, 4);
            x.close();
            due("instalments", x.instalments(0), 0);
            due("debt", x.debt(0), 9);
        });
        test("nothing is rolled without a debt", () -> {
            HarvestLender x = with(1, 0);
            x.plant(0, 0, 1);
            x.setYield(0, 0);
            goTo(x, 4);
            x.close();
            due("instalments", x.instalments(0), 0);
            due("owes", x.owes(0), 0);
        });
        // debt, first, second and last instalment
        int[][] thirds = {{1, 0, 0, 1}, {2, 0, 0, 2}, {3, 1, 1, 1}, {4, 1, 1, 2}, {5, 1, 1, 3}, {6, 2, 2, 2},
            {49, 16, 16, 17}, {20000, 6666, 6666, 6668}};
        for (int[] third : thirds) {
            test("the first two a third of it, rounded down, and the last one the rest: " + third[0], () -> {
                HarvestLender x = rolledFrom(third[0]);
                for (int i = 1; i <= 3; i++) {
                    goTo(x, 4);
                    int before = x.debt(0);
                    int owed = x.owes(0);
                    x.close();
                    due("instalment " + i, x.debt(0) - before, third[i]);
                    due("left", x.instalments(0), 3 - i);
                    due("owes as before", x.owes(0), owed);
                }
                due("owes the debt alone", x.owes(0), x.debt(0));
            });
        }
        test("a rolled debt was not repaid, and is not charged again", () -> {
            HarvestLender x = rolledFrom(49);
            for (int season = 0; season < 3; season++) {
                goTo(x, 4);
                x.close();
            }
            due("charged", x.charged(0), 49);
            due("debt", x.debt(0), 49);
            for (int source = 0; source < 5; source++) {
                due("repaid from " + source, x.repaid(0, source), 0);
            }
        });
    }

    private static void whatIsRolled() {
        test("a debt is rolled with a cover too: what the cover left of it", () -> {
            HarvestLender x = with(1, 0);
            x.setCrop(0, 1, 100);
            x.plant(0, 0, 1);
            x.cover(0, 60);
            x.setYield(0, 50);
            x.draw(0, 40);
            goTo(x, 4);
            x.close();
            due("instalments", x.instalments(0), 3);
            due("debt", x.debt(0), 0);
            due("owes", x.owes(0), 30);
            due("repaid", x.repaid(0, COVER), 10);
        });
        test("a pledge debt is not rolled with the debt, and hinders nothing", () -> {
            HarvestLender x = pledgedOneOf(1, 30, 59);
            x.close();
            due("instalments", x.instalments(0), 3);
            due("debt", x.debt(0), 0);
            due("owes", x.owes(0), 30 + 6);
            due("pledged", x.grain(0, true), 1);
            x.sell(0, 1);
            due("the pledge debt is paid, the instalments stand", x.owes(0), 30);
            due("purse", x.purse(0), 4);
        });
        test("an old debt and what was drawn are rolled together", () -> {
            HarvestLender x = owingOnly(9);
            x.plant(0, 0, 1);
            x.draw(0, 21);
            x.setYield(0, 1);
            goTo(x, 4);
            x.close();
            due("instalments", x.instalments(0), 3);
            due("owes", x.owes(0), 30);
            due("debt", x.debt(0), 0);
        });
        test("an old debt is rolled in a bad year without a drawing", () -> {
            HarvestLender x = owingOnly(9);
            x.plant(0, 0, 1);
            x.setYield(0, 59);
            goTo(x, 4);
            x.close();
            due("instalments", x.instalments(0), 3);
            due("owes", x.owes(0), 9);
        });
    }

    private static void instalments() {
        test("no instalments, then three, two, one, none, and none still", () -> {
            HarvestLender x = with(1, 0);
            x.plant(0, 0, 1);
            x.draw(0, 6);
            x.setYield(0, 0);
            goTo(x, 4);
            due("instalments", x.instalments(0), 0);
            int[] left = {3, 2, 1, 0, 0};
            int[] debts = {0, 2, 4, 6, 6};
            for (int i = 0; i < 5; i++) {
                x.close();
                due("instalments", x.instalments(0), left[i]);
                due("debt", x.debt(0), debts[i]);
                due("owes", x.owes(0), 6);
                goTo(x, 4);
                due("until the close", x.instalments(0), left[i]);
            }
        });
        // purse, debt and purse behind the close; the first instalment is 10
        int[][] purses = {{0, 10, 0}, {9, 1, 0}, {10, 0, 0}, {11, 0, 1}, {40, 0, 30}};
        for (int[] purse : purses) {
            test("an instalment is added to the debt, then that is repaid from PURSE: " + purse[0], () -> {
                HarvestLender x = rolledFrom(30);
                x.plant(0, 0, 1);
                goTo(x, 4);
                x.setCrop(0, 1, 50);
                if (purse[0] > 0) {
                    x.sell(0, purse[0]);
                }
                x.close();
                due("debt", x.debt(0), purse[1]);
                due("purse", x.purse(0), purse[2]);
                due("instalments", x.instalments(0), 2);
                due("owes", x.owes(0), purse[1] + 20);
                due("repaid", x.repaid(0, PURSE), 10 - purse[1]);
            });
        }
        for (int closes = 1; closes <= 4; closes++) {
            int left = Math.max(0, 3 - closes);
            int which = closes;
            test("a debt is rolled if there are no instalments: close " + which + ", left " + left, () -> {
                HarvestLender x = rolledFrom(30);
                for (int i = 1; i < which; i++) {
                    goTo(x, 4);
                    x.close();
                }
                int debt = x.debt(0);
                x.plant(0, 0, 1);
                x.setYield(0, 0);
                goTo(x, 4);
                x.close();
                due("instalments", x.instalments(0), left == 0 ? 3 : left);
                due("debt", x.debt(0), left == 0 ? 0 : debt + 10);
                due("owes", x.owes(0), 30);
            });
        }
        test("with instalments left the group pays for a bad year", () -> {
            HarvestLender x = atClose(new int[] {0, 100}, new int[] {30, 0}, 0);
            x.close();
            due("instalments", x.instalments(0), 3);
            x.plant(0, 0, 1);
            x.setYield(0, 0);
            goTo(x, 4);
            x.close();
            due("instalments", x.instalments(0), 2);
            due("the group pays the first one", x.called(1), 10);
            due("and not the others", x.owes(0), 20);
            due("GROUP", x.repaid(0, GROUP), 10);
        });
    }

    private static void debtors() {
        test("with instalments a farmer can plant, be covered, draw, pledge, sell and repay", () -> {
            HarvestLender x = rolledFrom(30);
            x.setNeed(0, 0, 1000);
            due("plant", x.plant(0, 0, 1), 1000);
            due("cover", x.cover(0, 50), 0);
            due("draw", x.draw(0, 100), 900);
            due("setYield", x.setYield(0, 100), 100);
            goTo(x, 4);
            due("debt", x.debt(0), 108);
            due("pledge", x.pledge(0, 1), 60);
            due("debt", x.debt(0), 48);
            due("sell", x.sell(0, 10), 1000);
            due("purse", x.purse(0), 952);
            due("instalments", x.instalments(0), 3);
            x.close();
            due("purse less the first one", x.purse(0), 942);
            x.plant(0, 0, 1);
            x.draw(0, 40);
            due("repay", x.repay(0, 40), 0);
            due("instalments", x.instalments(0), 2);
            due("owes", x.owes(0), 20 + 60);
        });
        test("with a debt and a pledge debt a farmer can plant, be covered and draw", () -> {
            HarvestLender x = pledgedOneOf(1, 30);
            x.close();
            due("debt", x.debt(0), 30);
            due("plant", x.plant(0, 0, 1), 1000);
            due("cover", x.cover(0, 50), 0);
            due("draw", x.draw(0, 1000), 0);
            due("owes", x.owes(0), 1036);
        });
    }

    private static void payers() {
        test("who has instalments left pays with all of the purse", () -> {
            HarvestLender x = atClose(new int[] {0, 0}, new int[] {0, 30}, 59);
            x.close();
            bringToClose(x, new int[] {0, 45}, new int[] {40, 0}, 100);
            due("purse less one instalment", x.purse(1), 35);
            due("two are left", x.owes(1), 20);
            x.close();
            due("all behind the second one", x.called(1), 25);
            due("purse", x.purse(1), 0);
            due("the last one stands", x.owes(1), 10);
            due("instalments", x.instalments(1), 1);
            due("debt", x.debt(0), 15);
        });
        test("who has a pledge debt pays with all of the purse", () -> {
            HarvestLender x = with(2, 0);
            x.plant(0, 0, 1);
            x.plant(1, 0, 1);
            x.draw(1, 49);
            goTo(x, 4);
            x.setCrop(0, 50, 50);
            due("pledge", x.pledge(0, 1), 30);
            x.close();
            due("called", x.called(0), 30);
            due("purse", x.purse(0), 0);
            due("the pledge debt stands", x.owes(0), 30);
            due("debt", x.debt(1), 19);
        });
        test("in a bad year, without a planting and with grain the others pay too", () -> {
            HarvestLender x = savers(0, 10, 10, 10);
            x.setCrop(0, 100, 50);
            x.plant(0, 0, 1);
            x.draw(0, 40);
            x.plant(1, 0, 1);
            x.setYield(1, 0);
            x.setYield(2, 0);
            x.plant(3, 0, 1);
            goTo(x, 4);
            x.close();
            for (int i = 1; i < 4; i++) {
                due("called of " + i, x.called(i), 10);
                due("purse of " + i, x.purse(i), 0);
            }
            due("debt", x.debt(0), 10);
        });
        test("a payer of one close is a debtor of the next, and the other way round", () -> {
            HarvestLender x = atClose(new int[] {0, 10}, new int[] {10, 0}, 100);
            x.close();
            due("called", x.called(1), 10);
            bringToClose(x, new int[] {30, 0}, new int[] {0, 40}, 100);
            x.close();
            due("called of the payer", x.called(0), 30);
            due("called of the debtor", x.called(1), 0);
            due("debt", x.debt(1), 10);
            due("repaid", x.repaid(0, GROUP), 10);
            due("repaid", x.repaid(1, GROUP), 30);
        });
        test("called is of the last close for a farmer who has a debt at it", () -> {
            HarvestLender x = atClose(new int[] {0, 10}, new int[] {10, 0}, 100);
            x.close();
            due("called", x.called(1), 10);
            x.plant(1, 0, 1);
            x.draw(1, 40);
            goTo(x, 4);
            x.close();
            due("called", x.called(1), 0);
            due("debt", x.debt(1), 40);
        });
    }

    private static void groups() {
        // purse of the other one, debt, what he pays
        int[][] pairs = {{0, 100, 0}, {1, 100, 1}, {99, 100, 99}, {100, 100, 100}, {101, 100, 100},
            {19999, 20000, 19999}, {20000, 20000, 20000}, {20001, 20000, 20000}, {30000, 19999, 19999},
            {30000, 20000, 20000}, {30000, 20001, 20000}, {20000, 30000, 20000}, {20001, 30000, 20000}};
        for (int[] pair : pairs) {
            test("others pay from their purses what is still owed, 20000 at most: " + pair[0] + " for " + pair[1],
                () -> {
                    HarvestLender x = atClose(new int[] {0, pair[0]}, new int[] {pair[1], 0}, 100);
                    x.close();
                    due("called", x.called(1), pair[2]);
                    due("purse", x.purse(1), pair[0] - pair[2]);
                    due("debt", x.debt(0), pair[1] - pair[2]);
                    due("repaid", x.repaid(0, GROUP), pair[2]);
                    due("called of the debtor", x.called(0), 0);
                    due("repaid of the other one", x.repaid(1, GROUP) + x.repaid(1, PURSE), 0);
                });
        }
        test("a debtor's number may be above the payer's", () -> {
            HarvestLender x = atClose(new int[] {50, 0}, new int[] {0, 40}, 100);
            x.close();
            due("called", x.called(0), 40);
            due("debt", x.debt(1), 0);
        });
        test("the others pay by rising numbers", () -> {
            HarvestLender x = atClose(new int[] {30, 30, 0, 30, 30}, new int[] {0, 0, 100, 0, 0}, 100);
            x.close();
            int[] called = {30, 30, 0, 30, 10};
            for (int i = 0; i < 5; i++) {
                due("called of " + i, x.called(i), called[i]);
            }
            due("debt", x.debt(2), 0);
        });
        test("debtors are paid for by rising numbers", () -> {
            HarvestLender x = atClose(new int[] {0, 50, 0}, new int[] {40, 0, 40}, 100);
            x.close();
            due("debt of the first", x.debt(0), 0);
            due("debt of the third", x.debt(2), 30);
            due("called", x.called(1), 50);
        });
        test("20000 cents at one close at most, for all others together", () -> {
            HarvestLender x = atClose(new int[] {0, 50000, 0, 0}, new int[] {12000, 0, 8001, 40}, 100);
            x.close();
            due("called", x.called(1), 20000);
            due("debt of the first", x.debt(0), 0);
            due("debt of the third", x.debt(2), 1);
            due("debt of the fourth", x.debt(3), 40);
            due("purse", x.purse(1), 30000);
            goTo(x, 4);
            x.close();
            due("at the next close anew", x.called(1), 41);
            due("purse", x.purse(1), 29959);
        });
        test("exactly 20000 for two others, and nothing for a third", () -> {
            HarvestLender x = atClose(new int[] {0, 0, 0, 50000}, new int[] {12000, 8000, 1, 0}, 100);
            x.close();
            due("called", x.called(3), 20000);
            due("debt of the second", x.debt(1), 0);
            due("debt of the third", x.debt(2), 1);
        });
        test("each of the others 20000: seven of them", () -> {
            int[] purses = {21000, 21000, 21000, 0, 21000, 21000, 21000, 21000};
            int[] debts = {0, 0, 0, 140001, 0, 0, 0, 0};
            HarvestLender x = atClose(purses, debts, 100);
            x.close();
            due("debt", x.debt(3), 1);
            for (int i = 0; i < 8; i++) {
                due("called of " + i, x.called(i), i == 3 ? 0 : 20000);
            }
            due("repaid", x.repaid(3, GROUP), 140000);
        });
        test("only farmers of the group pay", () -> {
            for (int group = 0; group < 3; group++) {
                HarvestLender x = new HarvestLender();
                x.add(group);
                x.add((group + 1) % 3);
                x.add((group + 2) % 3);
                x.add(group);
                bringToClose(x, new int[] {0, 100, 100, 100}, new int[] {40, 0, 0, 0}, 100);
                x.close();
                due("called of the next group", x.called(1), 0);
                due("called of the one behind it", x.called(2), 0);
                due("called of the group", x.called(3), 40);
                due("debt", x.debt(0), 0);
            }
        });
        test("without others in the group the debt stays", () -> {
            HarvestLender x = new HarvestLender();
            x.add(0);
            x.add(1);
            bringToClose(x, new int[] {0, 100}, new int[] {40, 0}, 100);
            x.close();
            due("debt", x.debt(0), 40);
            due("instalments", x.instalments(0), 0);
            due("called", x.called(1), 0);
        });
        test("a farmer with a debt in a good year and one in a bad year", () -> {
            HarvestLender x = atClose(new int[] {0, 0, 100}, new int[] {30, 40, 0}, 100, 59);
            x.close();
            due("good year: instalments", x.instalments(0), 0);
            due("bad year: instalments", x.instalments(1), 3);
            due("called for the first alone", x.called(2), 30);
        });
        test("an old debt without a planting is paid by the group", () -> {
            HarvestLender x = owingOnly(9);
            x.add(0);
            x.plant(1, 0, 1);
            goTo(x, 4);
            x.sell(1, 1);
            x.close();
            due("debt", x.debt(0), 0);
            due("called", x.called(1), 9);
        });
    }

    private static void called() {
        test("called is 0 before any close, then as at the last close", () -> {
            HarvestLender x = atClose(new int[] {0, 100}, new int[] {10, 0}, 100);
            due("at a close without debts", x.called(1), 0);
            x.close();
            due("paid", x.called(1), 10);
            due("the debtor", x.called(0), 0);
            for (int stage = 0; stage < 4; stage++) {
                due("until the next close", x.called(1), 10);
                x.next();
            }
            x.close();
            due("nothing was paid", x.called(1), 0);
            HarvestLender y = with(1, 0);
            for (int stage = 0; stage < 4; stage++) {
                due("before any close", y.called(0), 0);
                y.next();
            }
        });
        test("called is no payment for one's own debt", () -> {
            HarvestLender x = atClose(new int[] {100, 0}, new int[] {10, 0}, 100);
            x.close();
            due("called", x.called(0), 0);
            due("purse", x.purse(0), 90);
        });
    }

    private static void sums() {
        test("owes is the debt, the pledge debt, and all instalments", () -> {
            HarvestLender x = rolledFrom(30);
            x.plant(0, 0, 1);
            goTo(x, 4);
            due("instalments", x.owes(0), 30);
            due("pledge", x.pledge(0, 1), 60);
            due("and the pledge debt", x.owes(0), 90);
            x.sell(0, 1);
            due("the purse counts not", x.owes(0), 90);
            x.close();
            due("less the first one, which the purse paid", x.owes(0), 80);
            x.plant(0, 0, 1);
            x.draw(0, 7);
            due("and the debt", x.owes(0), 87);
        });
        test("repaid tells each source by itself, over all seasons", () -> {
            HarvestLender x = grownOwing(40);
            x.setCrop(0, 1, 50);
            x.sell(0, 3);
            x.setCrop(0, 10, 50);
            x.pledge(0, 1);
            due("SALE", x.repaid(0, SALE), 3);
            due("PLEDGE", x.repaid(0, PLEDGE), 6);
            due("COVER", x.repaid(0, COVER), 0);
            due("PURSE", x.repaid(0, PURSE), 0);
            due("GROUP", x.repaid(0, GROUP), 0);
            x.close();
            x.sell(0, 1);
            due("SALE", x.repaid(0, SALE), 13);
            due("PLEDGE", x.repaid(0, PLEDGE), 6);
        });
        test("charged is what was drawn, interest, and what was left of pledge debts, together", () -> {
            HarvestLender x = with(1, 0);
            x.plant(0, 0, 1);
            x.draw(0, 100);
            goTo(x, 4);
            due("drawn and interest", x.charged(0), 108);
            x.setCrop(0, 10, 50);
            x.pledge(0, 50);
            due("a pledge debt not yet", x.charged(0), 108);
            x.setCrop(0, 1, 50);
            x.sell(0, 50);
            due("what was left: 300 less 50", x.charged(0), 358);
            due("debt", x.debt(0), 250);
            x.close();
            due("as it was", x.charged(0), 358);
        });
    }

    // ---- the moments

    private static void toSeason(HarvestLender x, int season) {
        for (int i = x.season(); i < season; i++) {
            goTo(x, 4);
            x.close();
        }
    }

    /** Two farmers at the stage 4, the first one with so much grain of the crop 0, at a price of 100. */
    private static HarvestLender grown(int grain) {
        HarvestLender x = with(2, 0);
        int hectares = grain > 200 ? 50 : 1;
        x.setCrop(0, 100, grain / hectares > 100 ? 100 : grain / hectares);
        x.setYield(0, grain / hectares > 100 ? 200 : 100);
        x.plant(0, 0, hectares);
        goTo(x, 4);
        due("grain at first", x.grain(0, false), grain);
        return x;
    }

    /** A farmer at the stage 4 with 50 units of the crop 0 and a debt below 50, on which there is no interest. */
    private static HarvestLender grownOwing(int debt) {
        HarvestLender x = with(1, 0);
        x.plant(0, 0, 1);
        if (debt > 0) {
            x.draw(0, debt);
        }
        goTo(x, 4);
        due("debt at first", x.debt(0), debt);
        return x;
    }

    /** A farmer at the stage 4 with so many units at a price of 10, one of them pledged, and such a debt below 44. */
    private static HarvestLender pledgedOneOf(int units, int debt) {
        return pledgedOneOf(units, debt, 100);
    }

    private static HarvestLender pledgedOneOf(int units, int debt, int yield) {
        HarvestLender x = with(1, 0);
        x.setCrop(0, 10, (100 * units + yield - 1) / yield);
        x.plant(0, 0, 1);
        x.setYield(0, yield);
        x.draw(0, debt + 6);
        goTo(x, 4);
        due("grain at first", x.grain(0, false), units);
        due("pledge at first", x.pledge(0, 1), 6);
        due("debt at first", x.debt(0), debt);
        due("owes at first", x.owes(0), debt + 6);
        return x;
    }

    /** One farmer at the stage 0 of the season 1 with a debt below 50 alone. */
    private static HarvestLender owingOnly(int debt) {
        HarvestLender x = with(1, 0);
        x.setCrop(0, 100, 0);
        x.plant(0, 0, 1);
        x.draw(0, debt);
        goTo(x, 4);
        x.close();
        due("debt at first", x.owes(0), debt);
        x.setCrop(0, 100, 50);
        return x;
    }

    /** One farmer at the stage 0 with three instalments alone; the crop 0 has its first price and yield. */
    private static HarvestLender rolledFrom(int debt) {
        HarvestLender x = atClose(new int[] {0}, new int[] {debt}, 0);
        x.close();
        due("instalments at first", x.instalments(0), 3);
        due("owes at first", x.owes(0), debt);
        x.setCrop(0, 100, 50);
        return x;
    }

    /** Farmers of one group at the stage 0 of the season 1 with such purses; harvests of the crop 0 are 0. */
    private static HarvestLender savers(int... purses) {
        HarvestLender x = with(purses.length, 0);
        save(x, purses);
        return x;
    }

    private static void save(HarvestLender x, int[] purses) {
        x.setCrop(0, 10, 100);
        for (int i = 0; i < purses.length; i++) {
            if (purses[i] > 0) {
                x.setYield(i, 200);
                x.plant(i, 0, 50);
            }
        }
        goTo(x, 4);
        for (int i = 0; i < purses.length; i++) {
            if (purses[i] >= 10) {
                x.setCrop(0, 10, 0);
                x.sell(i, purses[i] / 10);
            }
            if (purses[i] % 10 > 0) {
                x.setCrop(0, 1, 0);
                x.sell(i, purses[i] % 10);
            }
            due("purse at first", x.purse(i), purses[i]);
        }
        x.setCrop(0, 100, 0);
        x.close();
    }

    /** Farmers of one group before a close, with such purses and debts; who has a debt has planted. */
    private static HarvestLender atClose(int[] purses, int[] debts, int... yields) {
        HarvestLender x = with(purses.length, 0);
        bringToClose(x, purses, debts, yields);
        return x;
    }

    /** The last one of the yields is for all who come behind it. */
    private static void bringToClose(HarvestLender x, int[] purses, int[] debts, int... yields) {
        save(x, purses);
        for (int stage = 0; stage < 4; stage++) {
            x.setNeed(0, stage, 100000);
        }
        for (int i = 0; i < debts.length; i++) {
            if (debts[i] > 0) {
                x.plant(i, 0, 1);
                x.setYield(i, yields[Math.min(i, yields.length - 1)]);
            }
        }
        goTo(x, 3);
        for (int i = 0; i < debts.length; i++) {
            if (debts[i] > 0) {
                x.draw(i, beforeInterest(debts[i]));
            }
        }
        x.next();
        for (int i = 0; i < debts.length; i++) {
            due("debt at first", x.debt(i), debts[i]);
        }
    }

    private static int beforeInterest(int debt) {
        int drawn = debt * 50 / 51;
        while (drawn + drawn / 50 < debt) {
            drawn++;
        }
        return drawn;
    }
}
