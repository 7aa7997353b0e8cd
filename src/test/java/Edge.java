/** Checks of what lies at an edge, each on a study of its own, which a scene makes anew. */
final class Edge {
    interface Scene {
        Watermarkmill make();
    }

    interface Call {
        Object on(Watermarkmill x);
    }

    interface NumberCall {
        Object on(Watermarkmill x, int number);
    }

    private Edge() {
    }

    static void answers(String what, Object want, Scene scene, Call call) {
        Watermarkmill x = scene.make();
        Check.due(what, Check.outcome(() -> call.on(x)), want);
    }

    /** The call throws just this, and what follows answers as if it had not been made. */
    static void refuses(String what, Class<?> want, Scene scene, Call call) {
        for (int view = 0; view < Portrait.VIEWS; view++) {
            Watermarkmill x = scene.make();
            Check.thrown(what, want, () -> call.on(x));
            Check.due(what + ", and nothing changed", Portrait.of(x, view), Portrait.of(scene.make(), view));
        }
    }

    /** A number is taken from the least to the most one, and none beyond, however far. */
    static void takes(String what, Class<?> refusal, int least, int most, Scene scene, NumberCall call) {
        takesFrom(what, refusal, least, scene, call);
        takesTo(what, refusal, most, scene, call);
    }

    static void takesFrom(String what, Class<?> refusal, int least, Scene scene, NumberCall call) {
        taken(what + ", the least", scene, x -> call.on(x, least));
        refuses(what + ", too small", refusal, scene, x -> call.on(x, least - 1));
        refuses(what + ", far too small", refusal, scene, x -> call.on(x, Integer.MIN_VALUE));
    }

    static void takesTo(String what, Class<?> refusal, int most, Scene scene, NumberCall call) {
        taken(what + ", the most", scene, x -> call.on(x, most));
        refuses(what + ", too large", refusal, scene, x -> call.on(x, most + 1));
        refuses(what + ", far too large", refusal, scene, x -> call.on(x, Integer.MAX_VALUE));
    }

    private static void taken(String what, Scene scene, Call call) {
        Watermarkmill x = scene.make();
        Object outcome = Check.outcome(() -> call.on(x));
        Check.due(what + " is taken: " + outcome, outcome instanceof String, false);
    }
}
