/** A request to service 0, which calls service 1, one of whose two instances answers wrongly. */
public final class Example {
    public static void main(String[] args) {
        BrambleMesh mesh = new BrambleMesh();

        // service, zone, weight, slots, queue, version
        mesh.instance(0, 0, 1, 3, 0, 0);
        int bad = mesh.instance(1, 0, 1, 3, 2, 0);
        mesh.instance(1, 1, 1, 3, 2, 0);
        mesh.fault(bad, BrambleMesh.WRONG, 1);

        // the plan of service 0: a call of service 1, safe, so that it may be tried again, with nothing that undoes it
        mesh.step(0, 1, true, BrambleMesh.NONE);
        mesh.policy(BrambleMesh.NONE, 1, BrambleMesh.TIMEOUT, 4);

        int request = mesh.request(0, true, 25);
        while (mesh.requestState(request) == BrambleMesh.GOING) {
            mesh.pass(1);
        }

        boolean isOk = mesh.requestState(request) == BrambleMesh.OK;
        System.out.println("request " + request + (isOk ? " is OK" : " is not OK") + " behind "
                + mesh.requestTicks(request) + " ticks, by " + mesh.callsOf(request) + " calls");
        for (int call = 0; call < mesh.calls(); call++) {
            System.out.println("call " + call + ": service " + mesh.call(call, 0) + " at instance " + mesh.call(call, 1)
                    + ", state " + mesh.call(call, 2));
        }
        System.out.println("service 0 has made " + mesh.extra(0) + " retry, its budget is " + mesh.budget(0));

        try {
            mesh.pass(51);
        } catch (IllegalArgumentException e) {
            System.out.println("51 ticks are refused, the tick is still " + mesh.tick());
        }
    }
}
