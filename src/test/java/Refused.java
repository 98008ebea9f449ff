import java.util.HashMap;
import java.util.Map;

/** Asks calls that are to be refused, and whether the state behind them is as it was ahead of them. */
final class Refused {
    interface Call {
        long on(RayGround g);
    }

    /** A call with one of its numbers left open. */
    interface CallWith {
        long on(RayGround g, int v);
    }

    private final Due due;
    private final Map<Look.Maker, String> looks = new HashMap<>();

    Refused(Due due) {
        this.due = due;
    }

    private String lookAt(Look.Maker scene) {
        return looks.computeIfAbsent(scene, Look::at);
    }

    void is(String what, Look.Maker scene, long want, Call call) {
        due.is(what, call.on(scene.make()), want);
        String behind = Look.at(() -> {
            RayGround g = scene.make();
            call.on(g);
            return g;
        });
        due.holds(what + ": the state is as it was", behind.equals(lookAt(scene)));
    }

    /** A call that answers something, by which nothing changes either. */
    void changesNothing(String what, Look.Maker scene, Call call) {
        is(what, scene, call.on(scene.make()), call);
    }

    /** Of a number: low and high are taken; what is just beyond them is not, nor an int's own least and most. */
    void beyond(String what, Look.Maker scene, int low, int high, long want, CallWith call) {
        due.holds(what + " " + low + " is taken", call.on(scene.make(), low) != want);
        due.holds(what + " " + high + " is taken", call.on(scene.make(), high) != want);
        for (int v : new int[] {low - 1, high + 1, Integer.MIN_VALUE, Integer.MAX_VALUE}) {
            is(what + " " + v, scene, want, g -> call.on(g, v));
        }
    }
}
