import java.util.ArrayList;
import java.util.List;

/** All that an object's calls can show of it, call by call; the object is used up by it. */
final class Seen {
    private final BellWaves x;
    private final List<String> rows = new ArrayList<>();

    private Seen(BellWaves x) {
        this.x = x;
    }

    /** What told(6) tells is not looked at, and the tape only if it is asked for. */
    static List<String> of(BellWaves x, boolean tape) {
        Seen seen = new Seen(x);
        seen.lookAtCounts(tape);
        seen.lookAtTown();
        seen.lookAtSchools();
        seen.lookAtPlans();
        seen.lookAtChains();
        seen.lookAtTrades();
        seen.lookAtMorning();
        // From here on looking changes what is looked at.
        seen.emptySheets();
        seen.openStreets();
        seen.readTape(tape);
        seen.changePupils();
        return seen.rows;
    }

    private int row(String call, int got) {
        rows.add(call + " = " + got);
        return got;
    }

    private void lookAtCounts(boolean tape) {
        for (int what = 0; what < (tape ? 6 : 5); what++) {
            row("told(" + what + ")", x.told(what));
        }
    }

    private void lookAtTown() {
        int corners = x.told(0);
        for (int a = 0; a < corners; a++) {
            for (int b = a + 1; b < corners; b++) {
                row("far(" + a + ", " + b + ")", x.far(a, b));
            }
        }
    }

    private void lookAtSchools() {
        int schools = x.told(2);
        for (int s = 0; s < schools; s++) {
            for (int what = 0; what < 7; what++) {
                row("of(" + s + ", " + what + ")", x.of(s, what));
                row("allowed(" + s + ", " + what + ")", x.allowed(s, what));
            }
        }
    }

    private void lookAtPlans() {
        int schools = x.told(2);
        for (int s = 0; s < schools; s++) {
            int routes = row("routes(" + s + ")", x.routes(s));
            for (int i = 0; i < routes; i++) {
                boolean more = true;
                for (int k = -1; more; k++) {
                    more = row("route(" + s + ", " + i + ", " + k + ")", x.route(s, i, k)) >= 0;
                }
            }
        }
        int stops = x.told(3);
        for (int s = 0; s < stops; s++) {
            row("ride(" + s + ")", x.ride(s));
        }
        for (int q = 0; q < 4; q++) {
            for (int what = 0; what < 4; what++) {
                row("fair(" + q + ", " + what + ")", x.fair(q, what));
            }
        }
    }

    private void lookAtChains() {
        int all = row("all()", x.all());
        row("aides()", x.aides());
        for (int a = 0; a < all; a++) {
            row("start(" + a + ")", x.start(a));
            // SLACK can be seen by nothing else; a few pairs show it.
            row("follows(" + a + ", next)", x.follows(a, (a + 1) % all));
            row("follows(" + a + ", last)", x.follows(a, all - 1));
        }
        int buses = row("buses()", x.buses());
        for (int bus = 0; bus < buses; bus++) {
            boolean more = true;
            for (int i = 0; more; i++) {
                more = row("chain(" + bus + ", " + i + ")", x.chain(bus, i)) >= 0;
            }
        }
    }

    private void lookAtTrades() {
        row("cost()", x.cost());
        int trades = row("trades()", x.trades());
        int schools = x.told(2);
        for (int i = 0; i < trades; i++) {
            for (int what = 0; what < 2 + schools; what++) {
                row("trade(" + i + ", " + what + ")", x.trade(i, what));
            }
        }
    }

    private void lookAtMorning() {
        for (int r = 0; r < 10; r++) {
            row("comes(" + r + ")", x.comes(r));
        }
    }

    /** 70000 has other lowest 8, 16 and 32 bits. */
    private void emptySheets() {
        for (int s = 0; s < 4; s++) {
            boolean more = true;
            for (int i = 0; i < 10 && more; i++) {
                int was = row("write(" + s + ", " + i + ", 70000)", x.write(s, i, 70000));
                more = was != Due.BEYOND && was != Due.MISSING;
            }
            row("bits of sheet " + s, x.write(s, 0, 0));
        }
    }

    private void openStreets() {
        int streets = x.told(1);
        for (int s = 0; s < streets; s++) {
            row("shut(" + s + ", false)", x.shut(s, false));
        }
        lookAtTown();
    }

    private void readTape(boolean tape) {
        if (!tape) {
            return;
        }
        row("text()", x.text());
        for (int s = 0; s < x.told(2); s++) {
            for (int b = 0; b < 7; b++) {
                row("allowed(" + s + ", " + b + ") by the tape", x.allowed(s, b));
            }
        }
    }

    private void changePupils() {
        int stops = x.told(3);
        for (int s = 0; s < stops; s++) {
            row("pupils(" + s + ", 1)", x.pupils(s, 1));
        }
    }
}
