import java.util.List;

/** The voyages of a globe, done by a seed, for Model. */
final class ModelLife {
    /** No step more is done. */
    private static final class Over extends RuntimeException {
        private static final long serialVersionUID = 1;

        Over() {
            super("over", null, false, false);
        }
    }

    /** Missed, days, tons bought, landings, whether a step was left. */
    final int[] tally = new int[5];
    int done = 0;
    private final Model.Globe globe;
    private long s;

    ModelLife(Model.Globe globe, int seed) {
        this.globe = globe;
        s = seed;
        try {
            all(globe.voyages);
        } catch (Over e) {
            return;
        }
    }

    private void all(List<ModelText.Step> steps) {
        for (ModelText.Step step : steps) {
            if (done == 300) {
                tally[4] = 1;
                throw new Over();
            }
            done++;
            one(step);
        }
    }

    private void one(ModelText.Step step) {
        Model.Hull h = globe.hulls.isEmpty() ? null : globe.hulls.get(step.ship);
        boolean holds;
        switch (step.word) {
            case "stop": throw new Over();
            case "loop":
                for (int i = 0; i < step.number; i++) {
                    all(step.within);
                }
                return;
            case "ruled": holds = globe.ruled(h) == step.thing; break;
            case "in": holds = !h.atSea() && h.port == step.thing; break;
            case "<": holds = h.coins < step.number; break;
            case ">": holds = h.coins > step.number; break;
            case "=": holds = h.coins == step.number; break;
            default:
                holds = false;
                try {
                    act(step, h);
                } catch (Model.Refusal r) {
                    tally[0]++;
                }
        }
        if (holds) {
            all(step.within);
        }
    }

    private void act(ModelText.Step step, Model.Hull h) {
        switch (step.word) {
            case "day":
                if (globe.day + step.number > 9999) {
                    throw new Model.Refusal(4);
                }
                for (int d = 0; d < step.number; d++) {
                    tally[3] += globe.goBy().size();
                    tally[1]++;
                }
                break;
            case "buy":
                globe.buy(h, step.thing, step.number);
                tally[2] += step.number;
                break;
            case "sell": globe.sell(h, step.thing, step.number); break;
            case "dump": globe.dump(h, step.thing, step.number); break;
            case "sail": globe.sail(h, step.thing); break;
            default:
                s = (s * 3023 + 11251) % 65536;
                globe.sail(h, (int) Math.floorDiv(s, 8L) % globe.ports.size());
        }
    }
}
