import java.util.Arrays;

/**
 * A simulator of a processor with deadlines. The words in capitals, here and below, are those of the
 * document's Terms; each public method keeps the promise that bears its name.
 */
public final class DeadlineBench {

    public static final int NONE = -1;

    private static final int REFUSED = -2;
    private static final int MOST_TASKS = 40;
    private static final int MOST_LOCKS = 16;
    private static final int MOST_SECTIONS = 120;
    private static final int MOST_MISSES_KEPT = 100;
    private static final int LATEST_LAST = 20000;
    private static final int MOST_TICKS_A_RUN = 2000;
    private static final int TICKS_KNOWN = 100;

    private final Task[] tasks;
    /** For each LOCK the number of the TASK whose JOB holds it, NONE for a FREE one. */
    private final int[] holders;
    private final SectionList sections;
    private final MissLog misses;
    private final RunHistory history;
    private final int last;
    private int now;
    private int idleTicks;

    public DeadlineBench(int tasks, int locks, int sections, int log, int last) {
        this.tasks = new Task[nearest(tasks, 1, MOST_TASKS)];
        for (int number = 0; number < this.tasks.length; number++) {
            this.tasks[number] = new Task();
        }
        this.holders = new int[nearest(locks, 0, MOST_LOCKS)];
        Arrays.fill(this.holders, NONE);
        this.sections = new SectionList(nearest(sections, 0, MOST_SECTIONS));
        this.misses = new MissLog(nearest(log, 0, MOST_MISSES_KEPT));
        this.history = new RunHistory();
        this.last = nearest(last, 1, LATEST_LAST);
    }

    public int addTask(int period, int work, int deadline) {
        boolean wellFormed = 0 < work && work <= deadline && deadline <= period && period <= last;
        if (!wellFormed) {
            return REFUSED;
        }
        for (int number = 0; number < tasks.length; number++) {
            if (!tasks[number].live) {
                tasks[number].enter(period, work, deadline, now);
                return number;
            }
        }
        return NONE;
    }

    public boolean addSection(int task, int begin, int lock, int length) {
        if (!isLive(task) || !isLock(lock) || tasks[task].job.pending) {
            return false;
        }
        // Not begin + length > work: that sum could wrap around.
        if (begin < 0 || length < 1 || length > tasks[task].work - begin) {
            return false;
        }
        return sections.insert(new Section(task, begin, lock, length));
    }

    public boolean removeTask(int task) {
        if (!isLive(task)) {
            return false;
        }
        tasks[task].live = false;
        dropJob(task);
        sections.removeAllOf(task);
        return true;
    }

    public boolean admissible() {
        // The demand never falls with time, so one look at a time t settles all times from the demand at t up to t:
        // theirs is no greater than that, and so no greater than they are. Below stillOpen none is settled yet.
        int stillOpen = last;
        while (stillOpen > 0) {
            long demand = demandAt(stillOpen - 1);
            if (demand >= stillOpen) {
                return false;
            }
            stillOpen = (int) demand;
        }
        return true;
    }

    public int tick() {
        return now < last ? passTick() : REFUSED;
    }

    public int run(int n) {
        if (n < 0 || n > MOST_TICKS_A_RUN) {
            return NONE;
        }
        int missesBefore = misses.total;
        int ticks = 0;
        while (ticks < n && now < last && misses.total == missesBefore) {
            passTick();
            ticks++;
        }
        return ticks;
    }

    public int ran(int k) {
        return history.runnerBack(k);
    }

    public int remaining(int task) {
        return hasJob(task) ? tasks[task].work - tasks[task].job.unitsDone : 0;
    }

    public int deadlineOf(int task) {
        return hasJob(task) ? tasks[task].job.due : NONE;
    }

    public int effective(int task) {
        if (!hasJob(task)) {
            return NONE;
        }
        inheritDeadlines();
        return tasks[task].job.effectiveDue;
    }

    public int waitsFor(int task) {
        return hasJob(task) ? tasks[task].job.awaitedLock : NONE;
    }

    public int owner(int lock) {
        return isLock(lock) ? holders[lock] : NONE;
    }

    public int waiters(int lock) {
        if (!isLock(lock)) {
            return 0;
        }
        int waiting = 0;
        for (Task task : tasks) {
            if (task.job.pending && task.job.awaitedLock == lock) {
                waiting++;
            }
        }
        return waiting;
    }

    public int missCount() {
        return misses.total;
    }

    public int miss(int i, int what) {
        if (!misses.keeps(i)) {
            return NONE;
        }
        switch (what) {
            case 0: return misses.numbers[i];
            case 1: return misses.times[i];
            default: return NONE;
        }
    }

    public int task(int task, int what) {
        if (!isLive(task)) {
            return NONE;
        }
        Task asked = tasks[task];
        switch (what) {
            case 0: return asked.period;
            case 1: return asked.work;
            case 2: return asked.deadline;
            case 3: return asked.nextRelease;
            case 4: return sections.sizeOf(task);
            case 5: return asked.jobsReleased;
            case 6: return asked.jobsDone;
            case 7: return asked.jobsMissed;
            case 8: return asked.ticksWaited;
            case 9: return asked.timesPutBy;
            case 10: return asked.greatestAnswer;
            default: return NONE;
        }
    }

    public int count(int what) {
        switch (what) {
            case 0: return now;
            case 1: return liveTasks();
            case 2: return pendingJobs();
            case 3: return sections.size;
            case 4: return heldLocks();
            case 5: return idleTicks;
            case 6: return last;
            default: return NONE;
        }
    }

    private static int nearest(int value, int least, int most) {
        return Math.max(least, Math.min(value, most));
    }

    private boolean isLive(int task) {
        return task >= 0 && task < tasks.length && tasks[task].live;
    }

    private boolean hasJob(int task) {
        return isLive(task) && tasks[task].job.pending;
    }

    private boolean isLock(int lock) {
        return lock >= 0 && lock < holders.length;
    }

    private int liveTasks() {
        int live = 0;
        for (Task task : tasks) {
            if (task.live) {
                live++;
            }
        }
        return live;
    }

    private int pendingJobs() {
        int pending = 0;
        for (Task task : tasks) {
            if (task.job.pending) {
                pending++;
            }
        }
        return pending;
    }

    private int heldLocks() {
        int held = 0;
        for (int holder : holders) {
            if (holder != NONE) {
                held++;
            }
        }
        return held;
    }

    private long demandAt(int t) {
        long demand = 0;
        for (Task task : tasks) {
            if (task.live && task.deadline <= t && task.period > 0) {
                long jobsDue = 1 + (t - task.deadline) / task.period;
                demand += task.work * jobsDue;
            }
        }
        return demand;
    }

    private int passTick() {
        dropLateJobs();
        releaseJobs();
        int runner = runOneJob();
        countWaitsAndPutBys(runner);
        history.note(runner);
        if (runner == NONE) {
            idleTicks++;
        }
        now++;
        return runner;
    }

    private void dropLateJobs() {
        for (int number = 0; number < tasks.length; number++) {
            if (tasks[number].job.pending && tasks[number].job.due == now) {
                misses.note(number, now);
                tasks[number].jobsMissed++;
                dropJob(number);
            }
        }
    }

    private void releaseJobs() {
        for (Task task : tasks) {
            if (task.live && task.nextRelease == now) {
                task.releaseJob();
            }
        }
    }

    /** The number of the TASK whose JOB ran, NONE if none did. */
    private int runOneJob() {
        // Each turn that does not end the loop makes a READY JOB wait, so there are no more turns than TASKS.
        for (int turn = 0; turn < tasks.length; turn++) {
            inheritDeadlines();
            int takenUp = aheadOfAll(NONE);
            if (takenUp == NONE) {
                return NONE;
            }
            if (takeLocks(takenUp)) {
                workOneUnit(takenUp);
                return takenUp;
            }
        }
        return NONE;
    }

    /** Whether the JOB has all LOCKS that its next unit asks for; if not, it WAITS now. */
    private boolean takeLocks(int number) {
        Job job = tasks[number].job;
        for (int place = 0; place < sections.size; place++) {
            Section section = sections.rows[place];
            if (section.task != number || section.begin != job.unitsDone) {
                continue;
            }
            if (holders[section.lock] == NONE) {
                holders[section.lock] = number;
            } else if (holders[section.lock] != number) {
                job.awaitedLock = section.lock;
                return false;
            }
        }
        return true;
    }

    private void workOneUnit(int number) {
        Job job = tasks[number].job;
        job.unitsDone++;
        for (int place = sections.size - 1; place >= 0; place--) {
            Section section = sections.rows[place];
            if (section.task == number && section.end == job.unitsDone) {
                letGo(section.lock);
            }
        }
        if (job.unitsDone == tasks[number].work) {
            tasks[number].endJob(now + 1);
        }
    }

    private void letGo(int lock) {
        holders[lock] = NONE;
        inheritDeadlines();
        int heir = aheadOfAll(lock);
        if (heir != NONE) {
            holders[lock] = heir;
            tasks[heir].job.awaitedLock = NONE;
        }
    }

    private void dropJob(int number) {
        tasks[number].job.pending = false;
        tasks[number].job.awaitedLock = NONE;
        for (int lock = 0; lock < holders.length; lock++) {
            if (holders[lock] == number) {
                letGo(lock);
            }
        }
    }

    /**
     * Of the JOBS that wait for a LOCK (of the READY ones, for NONE) the TASK of the one that is AHEAD of all others,
     * by the deadlines that were inherited last; NONE if there is no such JOB.
     */
    private int aheadOfAll(int awaitedLock) {
        int first = NONE;
        for (int number = 0; number < tasks.length; number++) {
            Job job = tasks[number].job;
            if (!job.pending || job.awaitedLock != awaitedLock) {
                continue;
            }
            if (first == NONE || job.effectiveDue < tasks[first].job.effectiveDue) {
                first = number;
            }
        }
        return first;
    }

    private void inheritDeadlines() {
        for (Task task : tasks) {
            task.job.effectiveDue = task.job.due;
        }
        for (int number = 0; number < tasks.length; number++) {
            int due = tasks[number].job.due;
            int holder = holderAwaitedBy(number);
            // JOBS can wait for one another in a ring: the steps are bounded, a chain of waiting has no more.
            for (int step = 0; step < tasks.length && holder != NONE; step++) {
                Job job = tasks[holder].job;
                job.effectiveDue = Math.min(job.effectiveDue, due);
                holder = holderAwaitedBy(holder);
            }
        }
    }

    private int holderAwaitedBy(int number) {
        int lock = tasks[number].job.awaitedLock;
        return lock == NONE ? NONE : holders[lock];
    }

    private void countWaitsAndPutBys(int runner) {
        for (int number = 0; number < tasks.length; number++) {
            Job job = tasks[number].job;
            boolean ranNow = number == runner;
            if (job.pending && job.awaitedLock != NONE) {
                tasks[number].ticksWaited++;
            } else if (job.pending && job.ranInTickBefore && !ranNow && runner != NONE) {
                tasks[number].timesPutBy++;
            }
            job.ranInTickBefore = ranNow;
        }
    }

    /** The place of one number of TASKS, used again when another TASK comes with that number. */
    private static final class Task {
        private final Job job = new Job();
        private boolean live;
        private int period;
        private int work;
        private int deadline;
        private int nextRelease;
        private int jobsReleased;
        private int jobsDone;
        private int jobsMissed;
        private int ticksWaited;
        private int timesPutBy;
        private int greatestAnswer;

        private void enter(int period, int work, int deadline, int now) {
            this.live = true;
            this.period = period;
            this.work = work;
            this.deadline = deadline;
            this.nextRelease = now;
            this.jobsReleased = 0;
            this.jobsDone = 0;
            this.jobsMissed = 0;
            this.ticksWaited = 0;
            this.timesPutBy = 0;
            this.greatestAnswer = 0;
        }

        private void releaseJob() {
            job.begin(nextRelease, nextRelease + deadline);
            jobsReleased++;
            nextRelease += period;
        }

        private void endJob(int time) {
            job.pending = false;
            jobsDone++;
            greatestAnswer = Math.max(greatestAnswer, time - job.release);
        }
    }

    /** The one JOB of a TASK that can be PENDING; one that is not PENDING waits for no LOCK and holds none. */
    private static final class Job {
        private boolean pending;
        private int release;
        private int due;
        private int unitsDone;
        private int awaitedLock = NONE;
        private int effectiveDue;
        private boolean ranInTickBefore;

        private void begin(int release, int due) {
            this.pending = true;
            this.release = release;
            this.due = due;
            this.unitsDone = 0;
            this.awaitedLock = NONE;
            // The tick before may have run the JOB that came before this one.
            this.ranInTickBefore = false;
        }
    }

    private static final class Section {
        private final int task;
        private final int begin;
        private final int lock;
        private final int length;
        /** The first unit behind the SECTION. */
        private final int end;

        private Section(int task, int begin, int lock, int length) {
            this.task = task;
            this.begin = begin;
            this.lock = lock;
            this.length = length;
            this.end = begin + length;
        }

        private boolean covers(Section other) {
            return begin <= other.begin && other.end <= end;
        }

        private boolean clashesWith(Section other) {
            boolean overlap = task == other.task && begin < other.end && other.begin < end;
            boolean nested = covers(other) || other.covers(this);
            return overlap && (!nested || lock == other.lock);
        }

        private boolean goesBefore(Section other) {
            return begin == other.begin ? length > other.length : begin < other.begin;
        }
    }

    /**
     * The SECTIONS of all TASKS in the order in which a JOB goes through its own: walking up the rows is going through
     * them, walking down is letting go, the last one first.
     */
    private static final class SectionList {
        private final Section[] rows;
        private int size;

        private SectionList(int most) {
            this.rows = new Section[most];
        }

        /** Whether there was room for it and it clashes with none; if not, it is not inserted. */
        private boolean insert(Section section) {
            if (size >= rows.length || clashes(section)) {
                return false;
            }
            int place = size;
            while (place > 0 && section.goesBefore(rows[place - 1])) {
                rows[place] = rows[place - 1];
                place--;
            }
            rows[place] = section;
            size++;
            return true;
        }

        private boolean clashes(Section section) {
            for (int place = 0; place < size; place++) {
                if (rows[place].clashesWith(section)) {
                    return true;
                }
            }
            return false;
        }

        private void removeAllOf(int task) {
            int kept = 0;
            for (int place = 0; place < size; place++) {
                if (rows[place].task != task) {
                    rows[kept] = rows[place];
                    kept++;
                }
            }
            size = kept;
        }

        private int sizeOf(int task) {
            int found = 0;
            for (int place = 0; place < size; place++) {
                if (rows[place].task == task) {
                    found++;
                }
            }
            return found;
        }
    }

    /** Counts all MISSES and keeps the first ones, as many as it has room for. */
    private static final class MissLog {
        private final int[] numbers;
        private final int[] times;
        private int total;

        private MissLog(int most) {
            this.numbers = new int[most];
            this.times = new int[most];
        }

        private void note(int number, int time) {
            if (total < numbers.length) {
                numbers[total] = number;
                times[total] = time;
            }
            total++;
        }

        private boolean keeps(int i) {
            return i >= 0 && i < total && i < numbers.length;
        }
    }

    /** Which TASK ran in each of the latest TICKS; the oldest one's place is written over. */
    private static final class RunHistory {
        private final int[] runners = new int[TICKS_KNOWN];
        private int total;

        private void note(int runner) {
            runners[total % TICKS_KNOWN] = runner;
            total++;
        }

        private int runnerBack(int k) {
            if (k < 0 || k >= TICKS_KNOWN || k >= total) {
                return REFUSED;
            }
            return runners[(total - 1 - k) % TICKS_KNOWN];
        }
    }
}
