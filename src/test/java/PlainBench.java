import java.util.ArrayList;
import java.util.HashSet;
import java.util.List;
import java.util.Set;
import java.util.TreeMap;

/**
 * The document once more, written for plainness alone: what is asked is worked out anew each time from sets of objects.
 * The tests compare the program with it.
 */
final class PlainBench {
    static final class Section {
        int begin;
        int lock;
        int length;

        Set<Integer> units() {
            Set<Integer> units = new HashSet<>();
            for (int unit = begin; unit < begin + length; unit++) {
                units.add(unit);
            }
            return units;
        }
    }

    static final class Task {
        int number;
        int period;
        int work;
        int deadline;
        int nextRelease;
        final List<Section> sections = new ArrayList<>();
        final int[] counted = new int[11];
        Job job;
    }

    static final class Job {
        Task task;
        int release;
        int unitsDone;
        int waitsFor = -1;
        final Set<Integer> held = new HashSet<>();
        final List<Section> goneThrough = new ArrayList<>();

        int due() {
            return release + task.deadline;
        }
    }

    final int numbers;
    final int locks;
    final int mostSections;
    final int log;
    final int last;
    final TreeMap<Integer, Task> live = new TreeMap<>();
    final List<int[]> misses = new ArrayList<>();
    final List<Integer> runners = new ArrayList<>();
    Job ranBefore;

    PlainBench(int tasks, int locks, int sections, int log, int last) {
        this.numbers = Math.min(40, Math.max(1, tasks));
        this.locks = Math.min(16, Math.max(0, locks));
        this.mostSections = Math.min(120, Math.max(0, sections));
        this.log = Math.min(100, Math.max(0, log));
        this.last = Math.min(20000, Math.max(1, last));
    }

    int now() {
        return runners.size();
    }

    int addTask(int period, int work, int deadline) {
        if (work <= 0 || work > deadline || deadline > period || period > last) {
            return -2;
        }
        int number = 0;
        while (live.containsKey(number)) {
            number++;
        }
        if (number >= numbers) {
            return -1;
        }
        Task task = new Task();
        task.number = number;
        task.period = period;
        task.work = work;
        task.deadline = deadline;
        task.nextRelease = now();
        live.put(number, task);
        return number;
    }

    boolean addSection(int number, int begin, int lock, int length) {
        Task task = live.get(number);
        if (task == null || task.job != null || lock < 0 || lock >= locks) {
            return false;
        }
        if (begin < 0 || length < 1 || (long) begin + length > task.work || count(3) >= mostSections) {
            return false;
        }
        Section section = new Section();
        section.begin = begin;
        section.lock = lock;
        section.length = length;
        for (Section other : task.sections) {
            Set<Integer> both = section.units();
            both.retainAll(other.units());
            boolean nested = both.equals(section.units()) || both.equals(other.units());
            if (!both.isEmpty() && (!nested || other.lock == lock)) {
                return false;
            }
        }
        task.sections.add(section);
        return true;
    }

    boolean removeTask(int number) {
        Task task = live.remove(number);
        if (task == null) {
            return false;
        }
        drop(task);
        return true;
    }

    boolean admissible() {
        for (int t = 0; t < last; t++) {
            long sum = 0;
            for (Task task : live.values()) {
                for (int due = task.deadline; due <= t && sum <= t; due += task.period) {
                    sum += task.work;
                }
            }
            if (sum > t) {
                return false;
            }
        }
        return true;
    }

    List<Job> pending() {
        List<Job> pending = new ArrayList<>();
        for (Task task : live.values()) {
            if (task.job != null) {
                pending.add(task.job);
            }
        }
        return pending;
    }

    Job holder(int lock) {
        for (Job job : pending()) {
            if (job.held.contains(lock)) {
                return job;
            }
        }
        return null;
    }

    int effective(Job job, Set<Job> seen) {
        int least = job.due();
        seen.add(job);
        for (Job other : pending()) {
            if (job.held.contains(other.waitsFor) && !seen.contains(other)) {
                least = Math.min(least, effective(other, seen));
            }
        }
        return least;
    }

    Job ahead(int waitsFor) {
        Job first = null;
        int firstDue = 0;
        for (Job job : pending()) {
            int due = effective(job, new HashSet<>());
            if (job.waitsFor == waitsFor && (first == null || due < firstDue)) {
                first = job;
                firstDue = due;
            }
        }
        return first;
    }

    void drop(Task task) {
        Job job = task.job;
        task.job = null;
        if (job == null) {
            return;
        }
        for (int lock = 0; lock < locks; lock++) {
            if (job.held.remove(lock)) {
                giveOn(lock);
            }
        }
    }

    void giveOn(int lock) {
        Job heir = ahead(lock);
        if (heir != null) {
            heir.held.add(lock);
            heir.waitsFor = -1;
        }
    }

    int tick() {
        if (now() == last) {
            return -2;
        }
        for (Task task : live.values()) {
            if (task.job != null && task.job.due() == now()) {
                misses.add(new int[] {task.number, now()});
                task.counted[7]++;
                drop(task);
            }
        }
        for (Task task : live.values()) {
            if (task.nextRelease == now()) {
                task.job = new Job();
                task.job.task = task;
                task.job.release = now();
                task.nextRelease += task.period;
                task.counted[5]++;
            }
        }
        Job runner = ahead(-1);
        while (runner != null && !hasItsLocks(runner)) {
            runner = ahead(-1);
        }
        if (runner != null) {
            work(runner);
        }
        for (Job job : pending()) {
            if (job.waitsFor != -1) {
                job.task.counted[8]++;
            }
            if (job == ranBefore && job.waitsFor == -1 && runner != null && runner != job) {
                job.task.counted[9]++;
            }
        }
        ranBefore = runner;
        runners.add(runner == null ? -1 : runner.task.number);
        return runners.get(runners.size() - 1);
    }

    boolean hasItsLocks(Job job) {
        List<Section> begin = new ArrayList<>();
        for (Section section : job.task.sections) {
            if (section.begin == job.unitsDone) {
                begin.add(section);
            }
        }
        begin.sort((a, b) -> b.length - a.length);
        for (Section section : begin) {
            if (job.held.contains(section.lock)) {
                if (!job.goneThrough.contains(section)) {
                    job.goneThrough.add(section);
                }
                continue;
            }
            if (holder(section.lock) != null) {
                job.waitsFor = section.lock;
                return false;
            }
            job.held.add(section.lock);
            job.goneThrough.add(section);
        }
        return true;
    }

    void work(Job job) {
        job.unitsDone++;
        for (int i = job.goneThrough.size() - 1; i >= 0; i--) {
            Section section = job.goneThrough.get(i);
            if (section.begin + section.length == job.unitsDone) {
                job.held.remove(section.lock);
                giveOn(section.lock);
            }
        }
        if (job.unitsDone == job.task.work) {
            job.task.counted[6]++;
            job.task.counted[10] = Math.max(job.task.counted[10], now() + 1 - job.release);
            job.task.job = null;
        }
    }

    int run(int n) {
        if (n < 0 || n > 2000) {
            return -1;
        }
        for (int ticks = 0; ticks < n; ticks++) {
            int before = misses.size();
            if (tick() == -2) {
                return ticks;
            }
            if (misses.size() > before) {
                return ticks + 1;
            }
        }
        return n;
    }

    int ran(int k) {
        return k < 0 || k >= 100 || k >= runners.size() ? -2 : runners.get(runners.size() - 1 - k);
    }

    Job jobOf(int number) {
        return live.containsKey(number) ? live.get(number).job : null;
    }

    int remaining(int number) {
        Job job = jobOf(number);
        return job == null ? 0 : job.task.work - job.unitsDone;
    }

    int deadlineOf(int number) {
        Job job = jobOf(number);
        return job == null ? -1 : job.due();
    }

    int effective(int number) {
        Job job = jobOf(number);
        return job == null ? -1 : effective(job, new HashSet<>());
    }

    int waitsFor(int number) {
        Job job = jobOf(number);
        return job == null ? -1 : job.waitsFor;
    }

    int owner(int lock) {
        Job job = holder(lock);
        return job == null ? -1 : job.task.number;
    }

    int waiters(int lock) {
        int waiting = 0;
        for (Job job : pending()) {
            waiting += lock >= 0 && job.waitsFor == lock ? 1 : 0;
        }
        return waiting;
    }

    int missCount() {
        return misses.size();
    }

    int miss(int i, int what) {
        boolean kept = i >= 0 && i < misses.size() && i < log;
        return kept && (what == 0 || what == 1) ? misses.get(i)[what] : -1;
    }

    int task(int number, int what) {
        Task task = live.get(number);
        if (task == null || what < 0 || what > 10) {
            return -1;
        }
        int[] told = {task.period, task.work, task.deadline, task.nextRelease, task.sections.size()};
        return what < told.length ? told[what] : task.counted[what];
    }

    int count(int what) {
        int sections = 0;
        for (Task task : live.values()) {
            sections += task.sections.size();
        }
        int held = 0;
        for (Job job : pending()) {
            held += job.held.size();
        }
        int idle = 0;
        for (int runner : runners) {
            idle += runner == -1 ? 1 : 0;
        }
        int[] told = {now(), live.size(), pending().size(), sections, held, idle, last};
        return what >= 0 && what < told.length ? told[what] : -1;
    }
}
