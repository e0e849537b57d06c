/** Objects in states that the tests of edges begin from; each call makes a new one. */
final class Worlds {
    static final int LISTS = 3;
    static final int ADDRESSES = 12;

    private Worlds() {
    }

    static ListForge everyoneAsked() {
        ListForge x = new ListForge();
        for (int l = 0; l < LISTS; l++) {
            for (int a = 0; a < ADDRESSES; a++) {
                x.ask(l, a, 0);
            }
        }
        return x;
    }

    static ListForge everyoneLive() {
        ListForge x = new ListForge();
        for (int l = 0; l < LISTS; l++) {
            for (int a = 0; a < ADDRESSES; a++) {
                Checks.join(x, l, a, 0);
            }
        }
        return x;
    }

    static ListForge everyoneStopped() {
        ListForge x = everyoneLive();
        for (int l = 0; l < LISTS; l++) {
            x.setting(l, 4, 0.5);
            for (int a = 0; a < ADDRESSES; a++) {
                x.bounce(l, a, true);
            }
        }
        return x;
    }

    /**
     * On list 0: 1 LIVE, 2 a MODERATOR who reads digests, 3 SILENT, 4 ASKED (its code is 3004),
     * 5 STOPPED, 6 BANNED, nobody else; on list 1: 1 a MODERATOR, with a watch kept; on list 2
     * nobody. Post 0 PASSED and is in the bundle of list 0, post 1 is HELD there.
     */
    static ListForge someOfEach() {
        ListForge x = new ListForge();
        Checks.join(x, 0, 1, 0);
        Checks.join(x, 0, 2, 1);
        Checks.join(x, 0, 3, 2);
        x.ask(0, 4, 0);
        Checks.join(x, 0, 5, 0);
        x.bounce(0, 1, false);
        x.setting(0, 4, 1);
        x.bounce(0, 5, true);
        x.setting(0, 4, 3);
        x.ban(0, 6, true);
        x.moderator(0, 2, true);
        Checks.join(x, 1, 1, 0);
        x.moderator(1, 1, true);
        x.setting(1, 1, 1);
        x.post(0, 1, 100, 0);
        x.post(0, 1, 101, 0);
        return x;
    }

    /** Everybody may post to any list; nobody is on one. */
    static ListForge openToAll() {
        ListForge x = new ListForge();
        for (int l = 0; l < LISTS; l++) {
            x.setting(l, 0, 1);
        }
        return x;
    }

    /** There are 40 posts, all PASSED; list 2 is not OPEN. */
    static ListForge fullOfPosts() {
        ListForge x = openToAll();
        for (int p = 0; p < 40; p++) {
            x.post(0, 0, 1, 0);
        }
        x.setting(2, 0, 0);
        return x;
    }

    /** So many were sent, CONFIRM to ADDRESS 0 all of them. */
    static ListForge withSent(int many) {
        ListForge x = new ListForge();
        for (int k = 0; k < many; k++) {
            x.ask(0, 0, 0);
            x.leave(0, 0);
        }
        return x;
    }
}
