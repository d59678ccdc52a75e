/** What the tests share: answers that are due, calls that must throw and change nothing, and the end with its exit code. */
final class Check {
    static final Class<? extends RuntimeException> NO_SUCH = IndexOutOfBoundsException.class;
    static final Class<? extends RuntimeException> BAD = IllegalArgumentException.class;
    static final Class<? extends RuntimeException> NOT_NOW = IllegalStateException.class;

    private int checked;
    private int wrong;
    private String about = "";
    private int checkedAhead;

    /** The checks from here on are about this sentence of the document, which is of the promise with this number. */
    void sentence(int promise, String words) {
        endSentence();
        about = "promise " + promise + ", \"" + words + "\": ";
        checkedAhead = checked;
    }

    /** A sentence that nothing is checked of is not tested. */
    private void endSentence() {
        if (!about.isEmpty() && checked == checkedAhead) {
            say("there is no check");
        }
    }

    private void say(String what) {
        wrong++;
        System.out.println(about + what);
    }

    void due(String what, long got, long want) {
        checked++;
        if (got != want) {
            say(what + ": got " + got + ", due is " + want);
        }
    }

    void due(String what, boolean got, boolean want) {
        due(what, got ? 1 : 0, want ? 1 : 0);
    }

    /** The call throws exactly this, by the class itself, and all that can be asked of the mesh is as before. */
    void refused(String what, BrambleMesh mesh, Class<? extends RuntimeException> due, Runnable call) {
        String before = answersOf(mesh);
        Class<?> thrown = null;
        try {
            call.run();
        } catch (RuntimeException e) {
            thrown = isThrownByTheClass(e) ? e.getClass() : RuntimeException.class;
        }
        checked++;
        if (thrown != due) {
            say(what + ": threw " + thrown + ", due is " + due);
        }
        checked++;
        if (!before.equals(answersOf(mesh))) {
            say(what + ": changed something");
        }
    }

    /** What the machine throws is of a class below these, or comes out of the library. */
    static boolean isThrownByTheClass(RuntimeException e) {
        boolean isPlain = e.getClass() == NO_SUCH || e.getClass() == BAD || e.getClass() == NOT_NOW;
        return isPlain && e.getStackTrace()[0].getClassName().startsWith("BrambleMesh");
    }

    boolean isFine() {
        return wrong == 0;
    }

    void end() {
        endSentence();
        System.out.println(checked + " checks, " + wrong + " wrong");
        if (wrong != 0) {
            System.exit(1);
        }
    }

    /** Every answer that the mesh gives without being changed by the question, in one text. */
    static String answersOf(BrambleMesh mesh) {
        StringBuilder all = new StringBuilder();
        all.append(mesh.tick()).append(' ').append(mesh.repairs(true)).append(' ').append(mesh.repairs(false));
        for (int call = 0; call < mesh.calls(); call++) {
            all.append("\ncall");
            for (int part = 0; part <= 7; part++) {
                all.append(' ').append(mesh.call(call, part));
            }
        }
        for (int request = 0; hasRequest(mesh, request); request++) {
            all.append("\nrequest ").append(mesh.requestState(request)).append(' ').append(mesh.requestTicks(request));
            all.append(' ').append(mesh.isKept(request)).append(' ').append(mesh.callsOf(request));
        }
        for (int caller = 0; caller <= 6; caller++) {
            all.append("\ncaller ").append(mesh.budget(caller)).append(' ').append(mesh.extra(caller));
            all.append(' ').append(mesh.first(caller));
        }
        for (int service = 0; service <= 5; service++) {
            all.append("\nservice ").append(mesh.canaryShare(service));
        }
        for (int instance = 0; hasInstance(mesh, instance); instance++) {
            all.append("\ninstance ").append(mesh.load(instance, true)).append(' ').append(mesh.load(instance, false));
            all.append(' ').append(mesh.isShunned(instance));
            for (int caller = 0; caller <= 6; caller++) {
                all.append(' ').append(mesh.breaker(caller, instance));
            }
        }
        return all.toString();
    }

    private static boolean hasRequest(BrambleMesh mesh, int request) {
        try {
            mesh.requestState(request);
            return true;
        } catch (IndexOutOfBoundsException e) {
            return false;
        }
    }

    private static boolean hasInstance(BrambleMesh mesh, int instance) {
        try {
            mesh.load(instance, true);
            return true;
        } catch (IndexOutOfBoundsException e) {
            return false;
        }
    }
}
