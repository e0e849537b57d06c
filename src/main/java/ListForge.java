import java.util.NoSuchElementException;

/**
 * Mailing lists: who is on them and how, posts that pass rules, wait for moderators or are thrown
 * back, digests, what is sent to whom, and bounces that take people off.
 */
public final class ListForge {
    private static final int LISTS = 3;
    private static final int ADDRESSES = 12;
    private static final int WAYS = 3;
    private static final int SUBJECTS = 10;
    private static final int LARGEST_SIZE = 1000;
    private static final int MOST_POSTS = 40;
    private static final int MOST_DAYS = 20;
    private static final int DAYS_TO_CONFIRM = 5;
    private static final int DAYS_IN_BUNDLE = 2;
    private static final int DAYS_BETWEEN_WARNINGS = 3;
    private static final int LAST_WARNING = 3;
    private static final int NEVER = -1;

    // What a SUBSCRIPTION is; NONE marks a row that nobody has.
    private static final int NONE = -1;
    private static final int ASKED = 0;
    private static final int LIVE = 1;
    private static final int STOPPED = 2;

    // The WAYS that posts are delivered by.
    private static final int SINGLE = 0;
    private static final int DIGEST = 1;

    // What becomes of a post.
    private static final int HELD = 0;
    private static final int PASSED = 1;
    private static final int DROPPED = 2;

    // What a moderator does with a held post.
    private static final int LET_PASS = 0;
    private static final int REJECT = 1;
    private static final int DROP = 2;

    // The sorts of what is sent.
    private static final int POST_MAIL = 0;
    private static final int DIGEST_MAIL = 1;
    private static final int CONFIRM_MAIL = 2;
    private static final int HELD_MAIL = 3;
    private static final int REJECTED_MAIL = 4;
    private static final int WARNING_MAIL = 5;
    private static final int GONE_MAIL = 6;

    private final MailingList[] lists;
    private final Post[] posts;
    private final Outbox outbox;
    private int postCount;
    private int askedBefore;
    private int today;

    public ListForge() {
        lists = new MailingList[LISTS];
        for (int l = 0; l < LISTS; l++) {
            lists[l] = new MailingList(l);
        }
        posts = new Post[MOST_POSTS];
        for (int p = 0; p < MOST_POSTS; p++) {
            posts[p] = new Post();
        }
        outbox = new Outbox();
    }

    public int ask(int l, int a, int way)
            throws IllegalArgumentException, IllegalStateException, UnsupportedOperationException {
        requirePlace(l, a);
        require(isWithin(way, 0, WAYS - 1));
        MailingList list = lists[l];
        Subscription wanted = list.subscriptions[a];
        if (wanted.state != NONE) {
            throw new IllegalStateException("there is a subscription");
        }
        if (list.banned[a]) {
            throw new UnsupportedOperationException("the address is banned");
        }
        int code = 1000 * askedBefore + 100 * l + a;
        askedBefore++;
        wanted.begin(way, code, today);
        outbox.add(a, l, CONFIRM_MAIL, 0);
        return code;
    }

    public int confirm(int code) throws NoSuchElementException {
        for (int l = 0; l < LISTS; l++) {
            for (int a = 0; a < ADDRESSES; a++) {
                Subscription asked = lists[l].subscriptions[a];
                if (asked.state == ASKED && asked.code == code) {
                    asked.becomeLive(today);
                    return a;
                }
            }
        }
        throw new NoSuchElementException("nothing waits for this code");
    }

    public int leave(int l, int a) throws IllegalArgumentException, NoSuchElementException {
        Subscription leaving = existing(l, a);
        int was = leaving.state;
        leaving.end();
        return was;
    }

    public int way(int l, int a, int way) throws IllegalArgumentException, NoSuchElementException {
        require(isWithin(way, 0, WAYS - 1));
        Subscription changed = existing(l, a);
        int was = changed.way;
        changed.way = way;
        return was;
    }

    public boolean moderator(int l, int a, boolean is)
            throws IllegalArgumentException, NoSuchElementException, IllegalStateException {
        Subscription changed = existing(l, a);
        if (changed.state == ASKED) {
            throw new IllegalStateException("the subscription is not confirmed");
        }
        boolean was = changed.moderates;
        changed.moderates = is;
        return was;
    }

    public boolean ban(int l, int a, boolean is) throws IllegalArgumentException {
        requirePlace(l, a);
        MailingList list = lists[l];
        boolean was = list.banned[a];
        list.banned[a] = is;
        if (is) {
            list.subscriptions[a].end();
        }
        return was;
    }

    public double setting(int l, int what, double v) throws IllegalArgumentException {
        require(isWithin(l, 0, LISTS - 1));
        MailingList list = lists[l];
        switch (what) {
            case 0:
                return list.changeOpen(v != 0);
            case 1:
                return list.changeWatched(v != 0);
            case 2:
                require(isWithin((int) v, 1, LARGEST_SIZE));
                return list.changeGreatest((int) v);
            case 3:
                require(isWithin((int) v, 1, LARGEST_SIZE));
                return list.changeFull((int) v);
            case 4:
                require(v >= 0.5 && v <= 10);
                return list.changeBest(v);
            default:
                require(isWithin(what, 10, 10 + SUBJECTS - 1));
                return list.changeBarred(what - 10, v != 0);
        }
    }

    public int post(int l, int a, int size, int subject)
            throws IllegalArgumentException, IllegalStateException, UnsupportedOperationException {
        requirePlace(l, a);
        require(isWithin(size, 1, LARGEST_SIZE) && isWithin(subject, 0, SUBJECTS - 1));
        if (postCount >= MOST_POSTS) {
            throw new IllegalStateException("there is no room for another post");
        }
        MailingList list = lists[l];
        if (list.refusesSender(a)) {
            throw new UnsupportedOperationException("the sender may not post here");
        }
        int p = postCount;
        postCount++;
        posts[p].comeIn(l, a, size);
        if (list.holdsBack(a, size, subject)) {
            list.tellModerators(p, outbox);
        } else {
            letThrough(p);
        }
        return p;
    }

    public int judge(int m, int p, int how)
            throws IllegalArgumentException, NoSuchElementException, UnsupportedOperationException {
        require(isWithin(m, 0, ADDRESSES - 1) && isWithin(how, LET_PASS, DROP));
        if (!isWithin(p, 0, postCount - 1) || posts[p].fate != HELD) {
            throw new NoSuchElementException("no such post is held");
        }
        Post held = posts[p];
        if (!lists[held.list].subscriptions[m].moderates) {
            throw new UnsupportedOperationException("only a moderator of the list may judge");
        }
        if (how == LET_PASS) {
            letThrough(p);
        } else {
            held.fate = DROPPED;
        }
        if (how == REJECT) {
            outbox.add(held.sender, held.list, REJECTED_MAIL, p);
        }
        return postsThatAre(HELD);
    }

    public double bounce(int l, int a, boolean hard)
            throws IllegalArgumentException, NoSuchElementException, IllegalStateException {
        Subscription bounced = existing(l, a);
        if (bounced.state != LIVE) {
            throw new IllegalStateException("the subscription is not live");
        }
        if (bounced.bounceDay != today) {
            bounced.bounceDay = today;
            bounced.score += hard ? 1.0 : 0.5;
            if (bounced.score >= lists[l].best) {
                bounced.stop(today);
                outbox.add(a, l, WARNING_MAIL, bounced.warning);
            }
        }
        return bounced.score;
    }

    public int renew(int l, int a)
            throws IllegalArgumentException, NoSuchElementException, IllegalStateException {
        Subscription renewed = existing(l, a);
        if (renewed.state != STOPPED) {
            throw new IllegalStateException("the subscription is not stopped");
        }
        int latest = renewed.warning;
        renewed.becomeLive(today);
        return latest;
    }

    public int tick(int days) throws IllegalArgumentException {
        require(isWithin(days, 1, MOST_DAYS));
        for (int d = 0; d < days; d++) {
            today++;
            for (int l = 0; l < LISTS; l++) {
                lists[l].beginDay(today, outbox);
            }
        }
        return today;
    }

    public int told(int l, int a, int what) throws IllegalArgumentException, NoSuchElementException {
        require(isWithin(what, 0, 4));
        Subscription asked = existing(l, a);
        switch (what) {
            case 0:
                return asked.state;
            case 1:
                return asked.way;
            case 2:
                return asked.moderates ? 1 : 0;
            case 3:
                return asked.warning;
            default:
                return asked.since;
        }
    }

    public double score(int l, int a) throws IllegalArgumentException, NoSuchElementException {
        return existing(l, a).score;
    }

    public int sent(int k, int what) throws IllegalArgumentException, IndexOutOfBoundsException {
        require(isWithin(what, 0, 3));
        if (!isWithin(k, 0, outbox.kept - 1)) {
            throw new IndexOutOfBoundsException("nothing is kept there");
        }
        switch (what) {
            case 0:
                return outbox.addresses[k];
            case 1:
                return outbox.lists[k];
            case 2:
                return outbox.sorts[k];
            default:
                return outbox.numbers[k];
        }
    }

    public int count(int what) throws IllegalArgumentException {
        switch (what) {
            case 0:
                return today;
            case 1:
                return postCount;
            case 2:
                return postsThatAre(HELD);
            case 3:
                return postsThatAre(PASSED);
            case 4:
                return outbox.total;
            default:
                require(isWithin(what, 10, 49) && what % 10 < LISTS);
                return countOfList(lists[what % 10], what / 10);
        }
    }

    private static int countOfList(MailingList list, int tens) {
        switch (tens) {
            case 1:
                return list.subscriptionCount();
            case 2:
                return list.liveCount();
            case 3:
                return list.bundlePosts;
            default:
                return list.bundleSizes;
        }
    }

    private int postsThatAre(int fate) {
        int found = 0;
        for (int p = 0; p < postCount; p++) {
            if (posts[p].fate == fate) {
                found++;
            }
        }
        return found;
    }

    private void letThrough(int p) {
        Post passing = posts[p];
        passing.fate = PASSED;
        lists[passing.list].deliver(p, passing, today, outbox);
    }

    private Subscription existing(int l, int a) {
        requirePlace(l, a);
        Subscription found = lists[l].subscriptions[a];
        if (found.state == NONE) {
            throw new NoSuchElementException("there is no subscription");
        }
        return found;
    }

    private static void requirePlace(int l, int a) {
        require(isWithin(l, 0, LISTS - 1) && isWithin(a, 0, ADDRESSES - 1));
    }

    private static void require(boolean asSaid) {
        if (!asSaid) {
            throw new IllegalArgumentException("a number is not as said");
        }
    }

    private static boolean isWithin(int number, int least, int most) {
        return number >= least && number <= most;
    }

    /** The row of one LIST and ADDRESS, used again by each SUBSCRIPTION that they have. */
    private static final class Subscription {
        int state;
        int way;
        int code;
        int since;
        int warning;
        int bounceDay;
        boolean moderates;
        double score;

        Subscription() {
            state = NONE;
        }

        void begin(int wayAsked, int codeGiven, int today) {
            state = ASKED;
            way = wayAsked;
            code = codeGiven;
            since = today;
            warning = 0;
            bounceDay = NEVER;
            score = 0;
        }

        /** Leaves bounceDay as it is: a bounce that counted before a renewal counts for its day. */
        void becomeLive(int today) {
            state = LIVE;
            since = today;
            warning = 0;
            score = 0;
        }

        void stop(int today) {
            state = STOPPED;
            since = today;
            warning = 1;
        }

        /** No rights outlast the SUBSCRIPTION, so a row that nobody has moderates nothing. */
        void end() {
            state = NONE;
            moderates = false;
        }

        boolean takes(int wayOfSending) {
            return state == LIVE && way == wayOfSending;
        }

        void fade(int today) {
            if (bounceDay != today - 1) {
                double faded = score * 0.875;
                score = faded < 0.25 ? 0 : faded;
            }
        }
    }

    /** One LIST: its SETTINGS, its SUBSCRIPTIONS and THE BUNDLE for its next DIGEST. */
    private static final class MailingList {
        final int number;
        final Subscription[] subscriptions;
        final boolean[] banned;
        final boolean[] barred;
        boolean open;
        boolean watched;
        int greatest;
        int full;
        double best;
        int bundlePosts;
        int bundleSizes;
        int bundleSince;

        MailingList(int l) {
            number = l;
            subscriptions = new Subscription[ADDRESSES];
            for (int a = 0; a < ADDRESSES; a++) {
                subscriptions[a] = new Subscription();
            }
            banned = new boolean[ADDRESSES];
            barred = new boolean[SUBJECTS];
            greatest = 100;
            full = 200;
            best = 3;
        }

        double changeOpen(boolean is) {
            double was = open ? 1 : 0;
            open = is;
            return was;
        }

        double changeWatched(boolean is) {
            double was = watched ? 1 : 0;
            watched = is;
            return was;
        }

        double changeGreatest(int size) {
            double was = greatest;
            greatest = size;
            return was;
        }

        double changeFull(int sizes) {
            double was = full;
            full = sizes;
            return was;
        }

        double changeBest(double score) {
            double was = best;
            best = score;
            return was;
        }

        double changeBarred(int subject, boolean is) {
            double was = barred[subject] ? 1 : 0;
            barred[subject] = is;
            return was;
        }

        int subscriptionCount() {
            int found = 0;
            for (int a = 0; a < ADDRESSES; a++) {
                if (subscriptions[a].state != NONE) {
                    found++;
                }
            }
            return found;
        }

        int liveCount() {
            int found = 0;
            for (int a = 0; a < ADDRESSES; a++) {
                if (subscriptions[a].state == LIVE) {
                    found++;
                }
            }
            return found;
        }

        boolean refusesSender(int a) {
            return banned[a] || (subscriptions[a].state != LIVE && !open);
        }

        boolean holdsBack(int sender, int size, int subject) {
            if (subscriptions[sender].moderates) {
                return false;
            }
            return size > greatest || barred[subject] || watched;
        }

        void tellModerators(int p, Outbox outbox) {
            for (int a = 0; a < ADDRESSES; a++) {
                if (subscriptions[a].moderates) {
                    outbox.add(a, number, HELD_MAIL, p);
                }
            }
        }

        void deliver(int p, Post post, int today, Outbox outbox) {
            boolean anyDigest = false;
            for (int a = 0; a < ADDRESSES; a++) {
                if (subscriptions[a].takes(SINGLE) && a != post.sender) {
                    outbox.add(a, number, POST_MAIL, p);
                }
                anyDigest = anyDigest || subscriptions[a].takes(DIGEST);
            }
            if (anyDigest) {
                addToBundle(post.size, today);
            }
            if (bundleSizes >= full) {
                sendBundle(outbox);
            }
        }

        /** Posts come in by days, so the day of the first one tells how old the oldest is. */
        void addToBundle(int size, int today) {
            if (bundlePosts == 0) {
                bundleSince = today;
            }
            bundlePosts++;
            bundleSizes += size;
        }

        void sendBundle(Outbox outbox) {
            for (int a = 0; a < ADDRESSES; a++) {
                if (subscriptions[a].takes(DIGEST)) {
                    outbox.add(a, number, DIGEST_MAIL, bundlePosts);
                }
            }
            bundlePosts = 0;
            bundleSizes = 0;
        }

        void beginDay(int today, Outbox outbox) {
            for (int a = 0; a < ADDRESSES; a++) {
                beginDayOf(a, today, outbox);
            }
            if (bundlePosts > 0 && today - bundleSince > DAYS_IN_BUNDLE) {
                sendBundle(outbox);
            }
        }

        void beginDayOf(int a, int today, Outbox outbox) {
            Subscription s = subscriptions[a];
            int daysInState = today - s.since;
            if (s.state == LIVE) {
                s.fade(today);
            } else if (s.state == STOPPED && daysInState % DAYS_BETWEEN_WARNINGS == 0) {
                warnAgain(a, outbox);
            } else if (s.state == ASKED && daysInState >= DAYS_TO_CONFIRM) {
                s.end();
            }
        }

        void warnAgain(int a, Outbox outbox) {
            Subscription s = subscriptions[a];
            if (s.warning >= LAST_WARNING) {
                s.end();
                outbox.add(a, number, GONE_MAIL, 0);
            } else {
                s.warning++;
                outbox.add(a, number, WARNING_MAIL, s.warning);
            }
        }
    }

    /** The row of one post; its SUBJECT is asked for by the RULES alone and not kept. */
    private static final class Post {
        int list;
        int sender;
        int size;
        int fate;

        void comeIn(int l, int a, int sizeGiven) {
            list = l;
            sender = a;
            size = sizeGiven;
            fate = HELD;
        }
    }

    /** THE OUTBOX: all are counted in total, the first ones kept. */
    private static final class Outbox {
        static final int ROOM = 60;
        final int[] addresses;
        final int[] lists;
        final int[] sorts;
        final int[] numbers;
        int kept;
        int total;

        Outbox() {
            addresses = new int[ROOM];
            lists = new int[ROOM];
            sorts = new int[ROOM];
            numbers = new int[ROOM];
        }

        void add(int address, int list, int sort, int number) {
            total++;
            if (kept < ROOM) {
                addresses[kept] = address;
                lists[kept] = list;
                sorts[kept] = sort;
                numbers[kept] = number;
                kept++;
            }
        }
    }
}
