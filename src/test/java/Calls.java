/**
 * A run of calls. It is played again on a new object wherever more is asked of its end than one
 * object may be asked: what an object answers after its 512th call is free.
 */
interface Calls {
    void on(BuddyBlockScheduler x);

    default Calls then(Calls next) {
        return x -> {
            on(x);
            next.on(x);
        };
    }

    /** The same call, its exception left aside. */
    default Calls attempted() {
        return x -> Check.outcome(() -> {
            on(x);
            return "no exception";
        });
    }

    default BuddyBlockScheduler played() {
        BuddyBlockScheduler x = new BuddyBlockScheduler();
        on(x);
        return x;
    }
}
