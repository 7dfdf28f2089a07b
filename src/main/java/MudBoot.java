/**
 * Mud from three places: a land of soils, a boot's layers, laws and stories of how the mud came on.
 * Words in capitals in the comments are the terms of the document.
 */
public final class MudBoot {
    public static final int NONE = -1;

    private static final int SORTS = 5;
    private static final int CELLS = 64;
    private static final int LAYERS = 8;
    private static final int MONTHS = 12;
    private static final int STORIES = 4;
    private static final int STEPS = 20;
    private static final int LAWS = 4;
    private static final int TEXT = 300;
    private static final int LOOKERS = 4;
    private static final int VERDICTS = 60;
    private static final int WAYS_TOLD = 1000000;
    private static final int DUG_MOST = 9;
    private static final int LAYER_MOST = 99;
    private static final int WALKED_MOST = 999;
    private static final int FAR_MOST = 1000;
    private static final int NO_LEAN = -2000;

    private final State now;
    private final State kept;
    private final Survey survey;
    private final Roads roads;
    private final Laws laws;
    private final Walk walk;
    private final Pairing pairing;

    public MudBoot(int a, int b) {
        int wide = within(a, 3, 8);
        int high = within(b, 3, 8);
        now = new State(wide, high);
        kept = new State(wide, high);
        survey = new Survey();
        roads = new Roads();
        laws = new Laws();
        walk = new Walk();
        pairing = new Pairing();
    }

    // ---- the land ----

    public int dig(int cell, int red, int grey, int chalk, int sand, int wing) {
        Land land = now.land;
        if (!land.isCell(cell) || !areGrains(red, grey, chalk, sand, wing, DUG_MOST)) return NONE;
        land.putDug(cell, red, grey, chalk, sand, wing);
        return land.dugCount;
    }

    public boolean carry(int cell, int from) {
        Land land = now.land;
        if (!land.isCell(cell)) return false;
        if (from != NONE && (!land.isCell(from) || land.comesFrom(from, cell))) return false;
        land.origin[cell] = from;
        return true;
    }

    public boolean bar(int cell, boolean is) {
        if (!now.land.isCell(cell)) return false;
        now.land.barred[cell] = is;
        return true;
    }

    public int soil(int cell, int sort) {
        if (!now.land.isCell(cell) || (sort != NONE && !isSort(sort))) return NONE;
        int all = now.land.soilInto(cell, survey.soils, 0);
        if (all < 1) return NONE;
        return sort == NONE ? all : survey.soils[sort];
    }

    public int span(int cell, int sort, boolean high) {
        if (!now.land.isCell(cell) || !isSort(sort)) return NONE;
        return now.land.spanAt(cell, sort, high);
    }

    // ---- the boot ----

    public int layer(int red, int grey, int chalk, int sand, int wing) {
        Layers boot = now.boot;
        if (boot.count >= LAYERS || !areGrains(red, grey, chalk, sand, wing, LAYER_MOST)) return NONE;
        boot.addEmpty();
        int outermost = boot.count - 1;
        boot.put(outermost, 0, red);
        boot.put(outermost, 1, grey);
        boot.put(outermost, 2, chalk);
        boot.put(outermost, 3, sand);
        boot.put(outermost, 4, wing);
        return outermost;
    }

    public int clean() {
        int had = now.boot.count;
        now.boot.count = 0;
        return had;
    }

    public boolean rules(int bound, int pace, int keep, int missing, int odd) {
        if (!isWithin(bound, 0, FAR_MOST) || !isWithin(pace, 0, 99) || !isWithin(keep, 0, MONTHS - 1)) return false;
        if (!isWithin(missing, 0, 1000) || !isWithin(odd, 0, 1000)) return false;
        Rules told = now.told;
        told.bound = bound;
        told.pace = pace;
        told.keep = keep;
        told.missing = missing;
        told.odd = odd;
        return true;
    }

    public int far(int layer, int cell) {
        if (!now.boot.has(layer) || !now.land.isCell(cell)) return NONE;
        survey.look(now);
        return survey.farAt(layer, cell);
    }

    public int where(int layer, int i) {
        if (!now.boot.has(layer) || i < NONE) return NONE;
        survey.look(now);
        return i == NONE ? Long.bitCount(survey.alikeTo(layer)) : survey.alikeCell(layer, i);
    }

    public int odds(int layer, int cell) {
        if (!now.boot.has(layer) || !now.land.isCell(cell)) return NONE;
        survey.look(now);
        return survey.oddsOf(layer, cell);
    }

    public int parted(int layer, int what) {
        if (!now.boot.has(layer) || !isWithin(what, 0, 3)) return NONE;
        survey.look(now);
        survey.part(now.boot, layer);
        return survey.parting[what];
    }

    // ---- ways ----

    public boolean start(int cell) {
        if (!now.land.isCell(cell)) return false;
        now.told.beginning = cell;
        return true;
    }

    public int paces(int from, int to) {
        if (!now.land.isCell(from) || !now.land.isCell(to)) return NONE;
        roads.measure(now.land, from);
        return roads.between(from, to);
    }

    public int way(int layer) {
        if (now.boot.count < 1 || (layer != NONE && !now.boot.has(layer))) return NONE;
        survey.look(now);
        if (!roads.plan(now, survey)) return NONE;
        return layer == NONE ? roads.leastCost : roads.chosen[layer];
    }

    public int ways() {
        survey.look(now);
        return roads.count(now, survey);
    }

    // ---- months ----

    public boolean flowers(int sort, int from, int to) {
        if (!isSort(sort) || !isWithin(from, NONE, MONTHS - 1)) return false;
        if (from != NONE && !isWithin(to, 0, MONTHS - 1)) return false;
        now.told.flowersFrom[sort] = from;
        now.told.flowersTo[sort] = to;
        return true;
    }

    public int months(int layer) {
        if (!now.boot.has(layer)) return NONE;
        return now.told.monthsOf(now.boot, layer);
    }

    public int when(int layer, boolean late) {
        if (!now.boot.has(layer)) return NONE;
        // A row is there just if the earliest months, taken one behind the other, reach the last LAYER.
        if (now.told.earliest(now.boot, now.boot.count - 1) == NONE) return NONE;
        return late ? now.told.latest(now.boot, layer) : now.told.earliest(now.boot, layer);
    }

    public int journey(int i) {
        if (i < NONE) return NONE;
        survey.look(now);
        int many = survey.journeys();
        if (many == NONE || i == NONE) return many;
        return i < many ? survey.firstLayers[i] : NONE;
    }

    public int trowel(int what) {
        if (!isWithin(what, 0, 1)) return NONE;
        survey.look(now);
        survey.seekTrowel(now.land);
        return what == 0 ? survey.trowelCell : survey.trowelWorth;
    }

    // ---- laws ----

    public int feed(int a, int b, int c, int d, int e) {
        return laws.append(a, b, c, d, e);
    }

    public int end(int n) {
        if (n < 0 || n > laws.length) return NONE;
        laws.length = n;
        return n;
    }

    public int law() {
        if (now.lawCount >= LAWS || !laws.readInto(now.lawCount)) return NONE;
        now.lawCount++;
        return now.lawCount - 1;
    }

    public int fault(int what) {
        if (!laws.hasRead) return NONE;
        if (what == 0) return laws.flaw;
        return what == 1 ? laws.place : NONE;
    }

    public boolean by(int law) {
        if (!isWithin(law, NONE, now.lawCount - 1)) return false;
        now.theLaw = law;
        return true;
    }

    // ---- stories ----

    public int step(int story, int cell, int wet, int hour) {
        if (!isStory(story) || !now.land.isCell(cell)) return NONE;
        if (!isWithin(wet, 0, 9) || !isWithin(hour, 0, 23)) return NONE;
        return now.stories.add(story, cell, wet, hour);
    }

    public int forget(int story) {
        if (!isStory(story)) return NONE;
        int had = now.stories.counts[story];
        now.stories.counts[story] = 0;
        return had;
    }

    public int walked(int story, int layer, int sort) {
        if (!isStory(story)) return NONE;
        walk.follow(now, laws, story);
        if (layer == NONE) return walk.mud.count;
        if (!walk.mud.has(layer) || !isSort(sort)) return NONE;
        return walk.mud.amount(layer, sort);
    }

    public int wear(int story) {
        if (!isStory(story)) return NONE;
        walk.follow(now, laws, story);
        now.boot.copyFrom(walk.mud);
        now.boot.cutTo(LAYER_MOST);
        return now.boot.count;
    }

    public int held(int story, int what) {
        if (!isStory(story)) return NONE;
        hold(story);
        if (what == 0) return pairing.least;
        if (what == 1) return pairing.walkedAlone;
        if (what == 2) return pairing.bootAlone;
        int layer = what < 100 ? NONE : what - 100;
        return now.boot.has(layer) ? pairing.partners[layer] : NONE;
    }

    public int believed(int stories) {
        if (!isWithin(stories, 1, (1 << STORIES) - 1)) return NONE;
        int best = NONE;
        int least = 0;
        for (int story = 0; story < STORIES; story++) {
            if ((stories >> story & 1) == 0) continue;
            hold(story);
            if (best == NONE || pairing.least < least) {
                best = story;
                least = pairing.least;
            }
        }
        return best;
    }

    private void hold(int story) {
        walk.follow(now, laws, story);
        pairing.pair(walk.mud, now.boot, now.told.missing, now.told.odd);
    }

    // ---- verdicts ----

    public int verdict(int looker, int layer, int cell, boolean yes, boolean knew) {
        if (!isWithin(looker, 0, LOOKERS - 1) || !isWithin(layer, 0, LAYERS - 1)) return NONE;
        if (!now.land.isCell(cell)) return NONE;
        return now.verdicts.add(looker, layer * CELLS + cell, yes, knew);
    }

    public int lean(int looker) {
        return now.verdicts.leanOf(looker);
    }

    public int agree(int one, int other) {
        if (one == other) return NONE;
        return now.verdicts.agreeOf(one, other);
    }

    // ---- the image ----

    public int image() {
        kept.copyFrom(now);
        return now.land.dugCount;
    }

    public int back() {
        now.copyFrom(kept);
        return now.land.dugCount;
    }

    public int about(int what) {
        switch (what) {
            case 0: return now.land.wide;
            case 1: return now.land.high;
            case 2: return now.land.dugCount;
            case 3: return now.boot.count;
            case 4: return now.lawCount;
            case 5: return now.theLaw;
            case 6: return now.verdicts.count;
            case 7: return now.told.beginning;
            case 8: return laws.length;
            default: break;
        }
        int story = isWithin(what, 10, 10 + STORIES - 1) ? what - 10 : NONE;
        return isStory(story) ? now.stories.counts[story] : NONE;
    }

    // ---- what all parts use ----

    private static boolean isWithin(int value, int least, int most) {
        return value >= least && value <= most;
    }

    private static int within(int value, int least, int most) {
        if (value < least) return least;
        return value > most ? most : value;
    }

    private static boolean isSort(int sort) {
        return sort >= 0 && sort < SORTS;
    }

    private static boolean isStory(int story) {
        return story >= 0 && story < STORIES;
    }

    private static boolean areGrains(int red, int grey, int chalk, int sand, int wing, int most) {
        if (!isWithin(red, 0, most) || !isWithin(grey, 0, most) || !isWithin(chalk, 0, most)) return false;
        if (!isWithin(sand, 0, most) || !isWithin(wing, 0, most)) return false;
        return red + grey + chalk + sand + wing >= 1;
    }

    /** Amounts of SORTS from a place in a row on, together; 0 where the row has no such place. */
    private static int together(int[] row, int at) {
        if (at < 0 || at + SORTS > row.length) return 0;
        int all = 0;
        for (int sort = 0; sort < SORTS; sort++) all += row[at + sort];
        return all;
    }

    private static void copyFlags(boolean[] from, boolean[] to) {
        for (int i = 0; i < from.length && i < to.length; i++) to[i] = from[i];
    }

    /** FAR of the amounts at one place from those at another; amounts of nothing are as far as can be. */
    private static int farBetween(int[] one, int oneAt, int[] other, int otherAt) {
        long oneAll = together(one, oneAt);
        long otherAll = together(other, otherAt);
        if (oneAll < 1 || otherAll < 1) return FAR_MOST;
        long apart = 0;
        for (int sort = 0; sort < SORTS; sort++) {
            apart += Math.abs(one[oneAt + sort] * otherAll - other[otherAt + sort] * oneAll);
        }
        return (int) (1000 * apart / (2 * oneAll * otherAll));
    }

    /** All that THE IMAGE keeps. The texts of LAWS stay where they are: behind going back only their count is less. */
    private static final class State {
        final Land land;
        final Layers boot;
        final Rules told;
        final Stories stories;
        final Verdicts verdicts;
        int lawCount;
        int theLaw;

        State(int wide, int high) {
            land = new Land(wide, high);
            boot = new Layers();
            told = new Rules();
            stories = new Stories();
            verdicts = new Verdicts();
            lawCount = 0;
            theLaw = NONE;
        }

        void copyFrom(State other) {
            land.copyFrom(other.land);
            boot.copyFrom(other.boot);
            told.copyFrom(other.told);
            stories.copyFrom(other.stories);
            verdicts.copyFrom(other.verdicts);
            lawCount = other.lawCount;
            theLaw = other.theLaw;
        }
    }

    /** THE LAND: what was DUG, CARRIED and BARRED. */
    private static final class Land {
        final int wide;
        final int high;
        final int cells;
        final int[] dug;
        final boolean[] isDug;
        final int[] origin;
        final boolean[] barred;
        int dugCount;

        Land(int wide, int high) {
            this.wide = wide;
            this.high = high;
            cells = wide * high;
            dug = new int[CELLS * SORTS];
            isDug = new boolean[CELLS];
            origin = new int[CELLS];
            barred = new boolean[CELLS];
            dugCount = 0;
            for (int cell = 0; cell < CELLS; cell++) origin[cell] = NONE;
        }

        void copyFrom(Land other) {
            System.arraycopy(other.dug, 0, dug, 0, CELLS * SORTS);
            copyFlags(other.isDug, isDug);
            System.arraycopy(other.origin, 0, origin, 0, CELLS);
            copyFlags(other.barred, barred);
            dugCount = other.dugCount;
        }

        boolean isCell(int cell) {
            return cell >= 0 && cell < cells;
        }

        void putDug(int cell, int red, int grey, int chalk, int sand, int wing) {
            if (!isCell(cell)) return;
            if (!isDug[cell]) dugCount++;
            isDug[cell] = true;
            int at = cell * SORTS;
            dug[at] = red;
            dug[at + 1] = grey;
            dug[at + 2] = chalk;
            dug[at + 3] = sand;
            dug[at + 4] = wing;
        }

        /** Whether a CELL is another one, or was CARRIED from it over any others; what is DUG does not part the row. */
        boolean comesFrom(int cell, int other) {
            int at = cell;
            for (int n = 0; n <= CELLS && isCell(at); n++) {
                if (at == other) return true;
                at = origin[at];
            }
            return false;
        }

        /** In x and in y together. */
        int apart(int one, int other) {
            if (wide < 1) return 0;
            return Math.abs(one % wide - other % wide) + Math.abs(one / wide - other / wide);
        }

        /** How far the nearest DUG CELL is; NONE if none is DUG. */
        int nearest(int cell) {
            int least = NONE;
            for (int other = 0; other < cells; other++) {
                if (!isDug[other]) continue;
                int apart = apart(cell, other);
                if (least == NONE || apart < least) least = apart;
            }
            return least;
        }

        /** Puts the SOIL of a CELL at a place in a row: all of it together; 0 without SOIL. */
        int soilInto(int cell, int[] row, int at) {
            if (!isCell(cell) || at < 0 || at + SORTS > row.length) return 0;
            for (int sort = 0; sort < SORTS; sort++) row[at + sort] = 0;
            int source = sourceOf(cell);
            // A DUG CELL is its own nearest one, so that it is guessed as itself.
            int near = nearest(source);
            if (near == NONE) return 0;
            for (int other = 0; other < cells; other++) {
                if (!isDug[other] || apart(source, other) != near) continue;
                for (int sort = 0; sort < SORTS; sort++) row[at + sort] += dug[other * SORTS + sort];
            }
            return together(row, at);
        }

        private int sourceOf(int cell) {
            int at = cell;
            for (int n = 0; n < CELLS && !isDug[at] && isCell(origin[at]); n++) at = origin[at];
            return at;
        }

        int spanAt(int cell, int sort, boolean greatest) {
            int near = nearest(cell);
            int answer = NONE;
            for (int other = 0; other < cells; other++) {
                if (!isDug[other] || apart(cell, other) != near) continue;
                int share = shareOf(other, sort);
                boolean better = greatest ? share > answer : share < answer;
                if (answer == NONE || better) answer = share;
            }
            return answer;
        }

        private int shareOf(int dugCell, int sort) {
            int all = together(dug, dugCell * SORTS);
            return all < 1 ? 0 : 1000 * dug[dugCell * SORTS + sort] / all;
        }
    }

    /** Up to 8 LAYERS in order, LAYER 0 first: those of THE BOOT, or those WALKED. */
    private static final class Layers {
        final int[] amounts;
        int count;

        Layers() {
            amounts = new int[LAYERS * SORTS];
            count = 0;
        }

        void copyFrom(Layers other) {
            System.arraycopy(other.amounts, 0, amounts, 0, LAYERS * SORTS);
            count = other.count;
        }

        boolean has(int layer) {
            return layer >= 0 && layer < count;
        }

        int amount(int layer, int sort) {
            return has(layer) && isSort(sort) ? amounts[layer * SORTS + sort] : 0;
        }

        void put(int layer, int sort, int amount) {
            if (has(layer) && isSort(sort)) amounts[layer * SORTS + sort] = amount;
        }

        void addEmpty() {
            if (count >= LAYERS) return;
            count++;
            for (int sort = 0; sort < SORTS; sort++) put(count - 1, sort, 0);
        }

        void dropOutermost() {
            if (count > 0) count--;
        }

        /** All amounts of a LAYER; 0 if there is none such. */
        int mass(int layer) {
            return has(layer) ? together(amounts, layer * SORTS) : 0;
        }

        void cutTo(int most) {
            for (int i = 0; i < count * SORTS; i++) amounts[i] = Math.min(most, amounts[i]);
        }

        /** Every amount is less by hundredths of it; LAYERS of nothing are gone. */
        void lessen(int hundredths) {
            for (int i = 0; i < count * SORTS; i++) amounts[i] -= amounts[i] * hundredths / 100;
            int left = 0;
            for (int layer = 0; layer < count; layer++) {
                if (mass(layer) < 1) continue;
                for (int sort = 0; sort < SORTS; sort++) put(left, sort, amount(layer, sort));
                left++;
            }
            count = left;
        }
    }

    /** What is told of LAYERS: BOUND and its like, START, and the MONTHS of FLOWERS. */
    private static final class Rules {
        int bound;
        int pace;
        int keep;
        int missing;
        int odd;
        int beginning;
        final int[] flowersFrom;
        final int[] flowersTo;

        Rules() {
            bound = 150;
            pace = 10;
            keep = 0;
            missing = 300;
            odd = 400;
            beginning = 0;
            flowersFrom = new int[SORTS];
            flowersTo = new int[SORTS];
            for (int sort = 0; sort < SORTS; sort++) flowersFrom[sort] = NONE;
        }

        void copyFrom(Rules other) {
            bound = other.bound;
            pace = other.pace;
            keep = other.keep;
            missing = other.missing;
            odd = other.odd;
            beginning = other.beginning;
            System.arraycopy(other.flowersFrom, 0, flowersFrom, 0, SORTS);
            System.arraycopy(other.flowersTo, 0, flowersTo, 0, SORTS);
        }

        private boolean flowersIn(int sort, int month) {
            int from = flowersFrom[sort];
            int to = flowersTo[sort];
            if (from <= to) return month >= from && month <= to;
            return month >= from || month <= to;
        }

        private boolean isDustOf(int sort, int month) {
            for (int ahead = 0; ahead <= keep; ahead++) {
                if (flowersIn(sort, Math.floorMod(month - ahead, MONTHS))) return true;
            }
            return false;
        }

        private boolean canBeOf(Layers boot, int layer, int month) {
            for (int sort = 0; sort < SORTS; sort++) {
                boolean tells = boot.amount(layer, sort) > 0 && flowersFrom[sort] != NONE;
                if (tells && !isDustOf(sort, month)) return false;
            }
            return true;
        }

        /** The MONTHS as bits. */
        int monthsOf(Layers boot, int layer) {
            int bits = 0;
            for (int month = 0; month < MONTHS; month++) {
                if (canBeOf(boot, layer, month)) bits |= 1 << month;
            }
            return bits;
        }

        /** The earliest MONTH of a LAYER that the ones before it let; NONE if they let none. */
        int earliest(Layers boot, int layer) {
            int month = 0;
            for (int i = 0; i <= layer && i < boot.count; i++) {
                int bits = monthsOf(boot, i);
                while (month < MONTHS && (bits >> month & 1) == 0) month++;
            }
            return month < MONTHS ? month : NONE;
        }

        /** The latest MONTH of a LAYER that the ones behind it let; NONE if they let none. */
        int latest(Layers boot, int layer) {
            int month = MONTHS - 1;
            for (int i = boot.count - 1; i >= layer && i >= 0; i--) {
                int bits = monthsOf(boot, i);
                while (month >= 0 && (bits >> month & 1) == 0) month--;
            }
            return month;
        }
    }

    /** STORIES: what each step was. */
    private static final class Stories {
        static final int PARTS = 3;
        final int[] steps;
        final int[] counts;

        Stories() {
            steps = new int[STORIES * STEPS * PARTS];
            counts = new int[STORIES];
        }

        void copyFrom(Stories other) {
            System.arraycopy(other.steps, 0, steps, 0, STORIES * STEPS * PARTS);
            System.arraycopy(other.counts, 0, counts, 0, STORIES);
        }

        int add(int story, int cell, int wet, int hour) {
            if (!isStory(story) || counts[story] >= STEPS) return NONE;
            int at = (story * STEPS + counts[story]) * PARTS;
            steps[at] = cell;
            steps[at + 1] = wet;
            steps[at + 2] = hour;
            counts[story]++;
            return counts[story];
        }

        /** Of a step: 0 its CELL, 1 WET, 2 HOUR. */
        int part(int story, int step, int part) {
            if (!isStory(story) || !isWithin(step, 0, STEPS - 1) || !isWithin(part, 0, PARTS - 1)) return 0;
            return steps[(story * STEPS + step) * PARTS + part];
        }
    }

    /** VERDICTS; a place is a LAYER and a CELL. */
    private static final class Verdicts {
        final int[] lookers;
        final int[] places;
        final boolean[] said;
        final boolean[] knowing;
        int count;

        Verdicts() {
            lookers = new int[VERDICTS];
            places = new int[VERDICTS];
            said = new boolean[VERDICTS];
            knowing = new boolean[VERDICTS];
            count = 0;
        }

        void copyFrom(Verdicts other) {
            System.arraycopy(other.lookers, 0, lookers, 0, VERDICTS);
            System.arraycopy(other.places, 0, places, 0, VERDICTS);
            copyFlags(other.said, said);
            copyFlags(other.knowing, knowing);
            count = other.count;
        }

        int add(int looker, int place, boolean yes, boolean knew) {
            if (count >= VERDICTS) return NONE;
            lookers[count] = looker;
            places[count] = place;
            said[count] = yes;
            knowing[count] = knew;
            count++;
            return count;
        }

        int leanOf(int looker) {
            int knew = yesOf(looker, true);
            int unknowing = yesOf(looker, false);
            return knew == NONE || unknowing == NONE ? NO_LEAN : knew - unknowing;
        }

        /** Thousandths of yes where a LOOKER knew, or where he didn't; NONE without such VERDICTS. */
        private int yesOf(int looker, boolean knew) {
            int all = 0;
            int yes = 0;
            for (int i = 0; i < count; i++) {
                if (lookers[i] != looker || knowing[i] != knew) continue;
                all++;
                if (said[i]) yes++;
            }
            return all < 1 ? NONE : 1000 * yes / all;
        }

        int agreeOf(int one, int other) {
            int all = 0;
            int same = 0;
            for (int i = 0; i < count; i++) {
                if (lookers[i] != one) continue;
                for (int j = 0; j < count; j++) {
                    if (lookers[j] != other || places[i] != places[j]) continue;
                    all++;
                    if (said[i] == said[j]) same++;
                }
            }
            return all < 1 ? NONE : 1000 * same / all;
        }
    }

    /** The SOIL of every CELL and FAR of every LAYER from it, worked out anew at each look, and what follows. */
    private static final class Survey {
        final int[] soils;
        final int[] totals;
        final int[] fars;
        final int[] twins;
        final int[] parting;
        final int[] firstLayers;
        int cells;
        int layers;
        int bound;
        int trowelCell;
        int trowelWorth;

        Survey() {
            soils = new int[CELLS * SORTS];
            totals = new int[CELLS];
            fars = new int[LAYERS * CELLS];
            twins = new int[CELLS];
            parting = new int[4];
            firstLayers = new int[LAYERS];
        }

        void look(State state) {
            cells = state.land.cells;
            layers = state.boot.count;
            bound = state.told.bound;
            for (int cell = 0; cell < cells; cell++) {
                totals[cell] = state.land.soilInto(cell, soils, cell * SORTS);
                for (int layer = 0; layer < layers; layer++) {
                    int far = farBetween(state.boot.amounts, layer * SORTS, soils, cell * SORTS);
                    fars[layer * CELLS + cell] = totals[cell] < 1 ? NONE : far;
                }
            }
        }

        /** NONE without SOIL. */
        int farAt(int layer, int cell) {
            if (!isWithin(layer, 0, layers - 1) || !isWithin(cell, 0, cells - 1)) return NONE;
            return fars[layer * CELLS + cell];
        }

        boolean isAlike(int layer, int cell) {
            int far = farAt(layer, cell);
            return far != NONE && far <= bound;
        }

        /** WHERE, a bit for each CELL. */
        long alikeTo(int layer) {
            long bits = 0;
            for (int cell = 0; cell < cells; cell++) {
                if (isAlike(layer, cell)) bits |= 1L << cell;
            }
            return bits;
        }

        int alikeCell(int layer, int i) {
            int ahead = 0;
            for (int cell = 0; cell < cells; cell++) {
                if (!isAlike(layer, cell)) continue;
                if (ahead == i) return cell;
                ahead++;
            }
            return NONE;
        }

        int oddsOf(int layer, int cell) {
            if (!isAlike(layer, cell)) return 0;
            int all = 0;
            for (int other = 0; other < cells; other++) {
                if (isAlike(layer, other)) all += bound + 1 - farAt(layer, other);
            }
            return all < 1 ? 0 : 1000 * (bound + 1 - farAt(layer, cell)) / all;
        }

        /** Fills parting: FAR, a, b, tenths of a; all NONE where fewer than two CELLS have SOIL. */
        void part(Layers boot, int layer) {
            for (int i = 0; i < parting.length; i++) parting[i] = NONE;
            for (int cell = 0; cell < cells; cell++) twins[cell] = twinAhead(cell);
            for (int a = 0; a < cells; a++) {
                // Smeared with a twin a LAYER is no nearer than with the one ahead, and the one ahead is the least.
                if (totals[a] < 1 || twins[a] != NONE) continue;
                for (int b = a + 1; b < cells; b++) {
                    if (totals[b] > 0 && twins[b] <= a) partBetween(boot, layer, a, b);
                }
            }
        }

        /** The nearest CELL ahead of one that has the same amounts; NONE if there is none. */
        private int twinAhead(int cell) {
            for (int other = cell - 1; other >= 0; other--) {
                int same = 0;
                for (int sort = 0; sort < SORTS; sort++) {
                    if (soils[other * SORTS + sort] == soils[cell * SORTS + sort]) same++;
                }
                if (same == SORTS) return other;
            }
            return NONE;
        }

        private void partBetween(Layers boot, int layer, int a, int b) {
            for (int tenths = 1; tenths <= 9; tenths++) {
                int far = farSmeared(boot, layer, a, b, tenths);
                if (parting[0] != NONE && far >= parting[0]) continue;
                parting[0] = far;
                parting[1] = a;
                parting[2] = b;
                parting[3] = tenths;
            }
        }

        private int farSmeared(Layers boot, int layer, int a, int b, int tenths) {
            long aAll = totals[a];
            long bAll = totals[b];
            long smearAll = 10 * aAll * bAll;
            long mass = boot.mass(layer);
            if (smearAll < 1 || mass < 1) return FAR_MOST;
            long apart = 0;
            for (int sort = 0; sort < SORTS; sort++) {
                long ofA = tenths * soils[a * SORTS + sort] * bAll;
                long ofB = (10 - tenths) * soils[b * SORTS + sort] * aAll;
                apart += Math.abs(boot.amount(layer, sort) * smearAll - (ofA + ofB) * mass);
            }
            return (int) (1000 * apart / (2 * mass * smearAll));
        }

        /** JOURNEYS: fills firstLayers and tells how many; NONE if some LAYER is ALIKE to no CELL. */
        int journeys() {
            int many = 0;
            long common = 0;
            for (int layer = 0; layer < layers; layer++) {
                long alike = alikeTo(layer);
                if (alike == 0) return NONE;
                common &= alike;
                if (common != 0) continue;
                firstLayers[many] = layer;
                many++;
                common = alike;
            }
            return many;
        }

        void seekTrowel(Land land) {
            trowelCell = NONE;
            trowelWorth = NONE;
            for (int cell = 0; cell < cells; cell++) {
                if (land.isDug[cell] || land.origin[cell] != NONE || land.barred[cell]) continue;
                int alike = 0;
                for (int layer = 0; layer < layers; layer++) {
                    if (isAlike(layer, cell)) alike++;
                }
                int worth = land.nearest(cell) * alike;
                if (worth < 1 || worth <= trowelWorth) continue;
                trowelCell = cell;
                trowelWorth = worth;
            }
        }
    }

    /** PACES, and the BEST WAY over them. */
    private static final class Roads {
        final int[] distances;
        final int[] queue;
        final int[] costs;
        final int[] chosen;
        int leastCost;

        Roads() {
            distances = new int[CELLS * CELLS];
            queue = new int[CELLS];
            costs = new int[LAYERS * CELLS];
            chosen = new int[LAYERS];
        }

        /** PACES from a CELL to every other, for between to tell. */
        void measure(Land land, int from) {
            if (!land.isCell(from)) return;
            int row = from * CELLS;
            for (int cell = 0; cell < CELLS; cell++) distances[row + cell] = NONE;
            if (land.barred[from]) return;
            distances[row + from] = 0;
            queue[0] = from;
            int waiting = 1;
            for (int done = 0; done < waiting && done < CELLS; done++) {
                int cell = queue[done];
                int x = land.wide < 1 ? 0 : cell % land.wide;
                if (x > 0) waiting = reach(land, row, cell, cell - 1, waiting);
                if (x < land.wide - 1) waiting = reach(land, row, cell, cell + 1, waiting);
                waiting = reach(land, row, cell, cell - land.wide, waiting);
                waiting = reach(land, row, cell, cell + land.wide, waiting);
            }
        }

        /** How many wait in the queue when a CELL beside another has been looked at. */
        private int reach(Land land, int row, int cell, int beside, int waiting) {
            if (!land.isCell(beside) || land.barred[beside]) return waiting;
            if (distances[row + beside] != NONE || waiting >= CELLS) return waiting;
            distances[row + beside] = distances[row + cell] + 1;
            queue[waiting] = beside;
            return waiting + 1;
        }

        int between(int from, int to) {
            if (!isWithin(from, 0, CELLS - 1) || !isWithin(to, 0, CELLS - 1)) return NONE;
            return distances[from * CELLS + to];
        }

        /** Fills chosen and leastCost; false: there is no WAY. */
        boolean plan(State state, Survey survey) {
            int cells = state.land.cells;
            int last = state.boot.count - 1;
            int pace = state.told.pace;
            for (int cell = 0; cell < cells; cell++) measure(state.land, cell);
            for (int layer = last; layer >= 0; layer--) {
                for (int cell = 0; cell < cells; cell++) {
                    int onwards = NONE;
                    boolean alike = survey.isAlike(layer, cell);
                    if (alike) onwards = layer == last ? 0 : restFrom(cell, layer + 1, cells, pace);
                    costs[layer * CELLS + cell] = onwards == NONE ? NONE : survey.farAt(layer, cell) + onwards;
                }
            }
            int at = state.told.beginning;
            leastCost = restFrom(at, 0, cells, pace);
            for (int layer = 0; layer <= last; layer++) {
                at = bestNext(at, layer, cells, pace);
                chosen[layer] = at;
            }
            return leastCost != NONE;
        }

        /** The lowest CELL of a LAYER over which the rest of the WAY is cheapest; NONE if there is none. */
        private int bestNext(int from, int layer, int cells, int pace) {
            int best = NONE;
            int least = 0;
            for (int cell = 0; cell < cells; cell++) {
                int cost = costTo(from, layer, cell, pace);
                if (cost == NONE || (best != NONE && cost >= least)) continue;
                best = cell;
                least = cost;
            }
            return best;
        }

        private int restFrom(int from, int layer, int cells, int pace) {
            return costTo(from, layer, bestNext(from, layer, cells, pace), pace);
        }

        /** What it costs from a CELL to that of a LAYER and from there to the last; NONE if one can't come there. */
        private int costTo(int from, int layer, int cell, int pace) {
            int steps = between(from, cell);
            if (steps == NONE || !isWithin(layer, 0, LAYERS - 1)) return NONE;
            int rest = costs[layer * CELLS + cell];
            return rest == NONE ? NONE : steps * pace + rest;
        }

        /** WAYS. Who can come to a CELL can come back, so that all are those that START comes to. */
        int count(State state, Survey survey) {
            int beginning = state.told.beginning;
            measure(state.land, beginning);
            long many = state.boot.count < 1 ? 0 : 1;
            for (int layer = 0; layer < state.boot.count; layer++) {
                int open = 0;
                for (int cell = 0; cell < state.land.cells; cell++) {
                    if (survey.isAlike(layer, cell) && between(beginning, cell) != NONE) open++;
                }
                many = Math.min(WAYS_TOLD, many * open);
            }
            return (int) many;
        }
    }

    /**
     * The tape and the LAWS read from it. A LAW is kept as code: a NUMBER stands for itself, each other
     * sign for OPS + its kind, behind what it works on; a CLAUSE ends with OPS + take, lose, new or falls.
     */
    private static final class Laws {
        static final String NAMES =
            "take lose new falls or and not wet hour red grey chalk sand wing layers mass far steps ";
        static final String SIGNS = "<>=#+-*/();";
        static final int TAKE = 0;
        static final int LOSE = 1;
        static final int NEW = 2;
        static final int FALLS = 3;
        static final int OR = 4;
        static final int AND = 5;
        static final int NOT = 6;
        static final int WORD = 7;
        static final int WORDS = 11;
        static final int NUMBER = 20;
        static final int END = 21;
        static final int UNKNOWN = 22;
        static final int LESS = 30;
        static final int MORE = 31;
        static final int SAME = 32;
        static final int UNLIKE = 33;
        static final int PLUS = 34;
        static final int MINUS = 35;
        static final int TIMES = 36;
        static final int BY = 37;
        static final int OPEN = 38;
        static final int CLOSE = 39;
        static final int STOP = 40;
        static final int NOT_MORE = 41;
        static final int NOT_LESS = 42;
        static final int NEGATIVE = 43;
        static final int OPS = 10000;
        static final int NUMBER_MOST = 9999;
        static final int OPEN_MOST = 8;
        static final int CLAUSES = 10;

        final char[] tape;
        final int[] code;
        final int[] codeLengths;
        int length;
        boolean hasRead;
        int flaw;
        int place;
        private final int[] kinds;
        private final int[] begins;
        private final int[] numbers;
        private int tokens;
        private int next;
        private int kind;
        private int law;
        private boolean hasTake;
        private boolean hasLose;

        Laws() {
            tape = new char[TEXT];
            code = new int[LAWS * TEXT];
            codeLengths = new int[LAWS];
            kinds = new int[TEXT + 1];
            begins = new int[TEXT + 1];
            numbers = new int[TEXT + 1];
            place = NONE;
        }

        int append(int a, int b, int c, int d, int e) {
            if (length + 20 > TEXT) return NONE;
            appendFour(a);
            appendFour(b);
            appendFour(c);
            appendFour(d);
            appendFour(e);
            return length;
        }

        private void appendFour(int four) {
            for (int shift = 24; shift >= 0 && length < TEXT; shift -= 8) {
                tape[length] = (char) (four >> shift & 255);
                length++;
            }
        }

        /** Reads the tape as a LAW, and empties it; false: it has a FAULT. */
        boolean readInto(int number) {
            if (!isWithin(number, 0, LAWS - 1)) return false;
            law = number;
            codeLengths[law] = 0;
            hasRead = true;
            flaw = 0;
            place = NONE;
            hasTake = false;
            hasLose = false;
            split();
            length = 0;
            for (int clause = 0; clause <= TEXT && kind != END; clause++) {
                if (!readClause(clause)) return false;
            }
            return kind == END;
        }

        // TOKENS

        /** Cuts the tape into TOKENS, the end behind them, and stands at the first. */
        private void split() {
            tokens = 0;
            int at = 0;
            for (int n = 0; n < TEXT && at < length; n++) {
                at = isBlank(tape[at]) ? at + 1 : cut(at);
            }
            kinds[tokens] = END;
            begins[tokens] = length;
            next = 0;
            kind = kinds[0];
        }

        /** Adds the TOKEN that begins at a byte; answers where it ends. */
        private int cut(int begin) {
            if (begin < 0 || begin >= length || tokens >= TEXT) return length;
            char first = tape[begin];
            int end = begin + 1;
            int number = 0;
            int found;
            if (isLetter(first)) {
                while (end < length && isLetter(tape[end])) end++;
                found = nameKind(begin, end);
            } else if (isDigit(first)) {
                for (end = begin; end < length && isDigit(tape[end]); end++) {
                    number = Math.min(NUMBER_MOST + 1, number * 10 + (tape[end] - '0'));
                }
                found = NUMBER;
            } else if ((first == '<' || first == '>') && end < length && tape[end] == '=') {
                end++;
                found = first == '<' ? NOT_MORE : NOT_LESS;
            } else {
                int sign = SIGNS.indexOf(first);
                found = sign < 0 ? UNKNOWN : LESS + sign;
            }
            kinds[tokens] = found;
            begins[tokens] = begin;
            numbers[tokens] = number;
            tokens++;
            return end;
        }

        private static boolean isBlank(char sign) {
            return sign == 32 || sign == 10;
        }

        private static boolean isLetter(char sign) {
            return (sign >= 'a' && sign <= 'z') || (sign >= 'A' && sign <= 'Z');
        }

        private static boolean isDigit(char sign) {
            return sign >= '0' && sign <= '9';
        }

        private int nameKind(int begin, int end) {
            int names = 0;
            int from = 0;
            for (int to = 0; to < NAMES.length(); to++) {
                if (NAMES.charAt(to) != ' ') continue;
                if (to - from == end - begin && isName(from, begin, end)) return names;
                names++;
                from = to + 1;
            }
            return UNKNOWN;
        }

        private boolean isName(int from, int begin, int end) {
            if (from < 0 || from + end - begin > NAMES.length() || begin < 0 || end > length) return false;
            for (int i = begin; i < end; i++) {
                if (NAMES.charAt(from + i - begin) != tape[i]) return false;
            }
            return true;
        }

        private void advance() {
            if (next < tokens) next++;
            kind = kinds[next];
        }

        private boolean refuse(int number) {
            flaw = number;
            place = begins[next];
            return false;
        }

        private void emit(int sign) {
            int end = codeLengths[law];
            if (end >= TEXT) return;
            code[law * TEXT + end] = sign;
            codeLengths[law] = end + 1;
        }

        // CLAUSES: each reads from the TOKEN where it stands, and answers false at a FAULT.

        private boolean readClause(int ahead) {
            int clause = kind;
            if (!isWithin(clause, TAKE, FALLS)) return refuse(1);
            if ((clause == TAKE && hasTake) || (clause == LOSE && hasLose)) return refuse(4);
            if (ahead >= CLAUSES) return refuse(5);
            if (clause == TAKE) hasTake = true;
            if (clause == LOSE) hasLose = true;
            advance();
            boolean fine = clause == TAKE || clause == LOSE ? readSum(0) : readEither();
            if (!fine) return false;
            if (kind != STOP) return refuse(1);
            emit(OPS + clause);
            advance();
            return true;
        }

        /** ASKS with and, or between them: an or waits until all that and joins behind it is read. */
        private boolean readEither() {
            if (!readAsk()) return false;
            boolean orWaits = false;
            for (int n = 0; n < TEXT && (kind == OR || kind == AND); n++) {
                boolean isOr = kind == OR;
                if (isOr && orWaits) emit(OPS + OR);
                if (isOr) orWaits = true;
                advance();
                if (!readAsk()) return false;
                if (!isOr) emit(OPS + AND);
            }
            if (orWaits) emit(OPS + OR);
            return true;
        }

        private boolean readAsk() {
            int nots = 0;
            while (kind == NOT && nots < OPEN_MOST) {
                nots++;
                advance();
            }
            if (kind == NOT) return refuse(3);
            if (!readSum(nots)) return false;
            int sign = kind;
            if (!isWithin(sign, LESS, UNLIKE) && sign != NOT_MORE && sign != NOT_LESS) return refuse(1);
            advance();
            if (!readSum(nots)) return false;
            emit(OPS + sign);
            for (int n = 0; n < nots; n++) emit(OPS + NOT);
            return true;
        }

        /**
         * ONES with signs between them: + or - waits until the PRODUCT behind it is read.
         * Open is how many of ( not and - are open around it.
         */
        private boolean readSum(int open) {
            if (!readOne(open)) return false;
            int waiting = NONE;
            for (int n = 0; n < TEXT && isWithin(kind, PLUS, BY); n++) {
                int sign = kind;
                boolean isProduct = sign == TIMES || sign == BY;
                if (!isProduct && waiting != NONE) emit(OPS + waiting);
                if (!isProduct) waiting = sign;
                advance();
                if (!readOne(open)) return false;
                if (isProduct) emit(OPS + sign);
            }
            if (waiting != NONE) emit(OPS + waiting);
            return true;
        }

        private boolean readOne(int openAround) {
            int open = openAround;
            while (kind == MINUS && open < OPEN_MOST) {
                open++;
                advance();
            }
            if (kind == MINUS) return refuse(3);
            if (kind == NUMBER) {
                if (numbers[next] > NUMBER_MOST) return refuse(2);
                emit(numbers[next]);
            } else if (isWithin(kind, WORD, WORD + WORDS - 1)) {
                emit(OPS + kind);
            } else if (kind != OPEN) {
                return refuse(1);
            } else if (open >= OPEN_MOST) {
                return refuse(3);
            } else {
                advance();
                if (!readSum(open + 1)) return false;
                if (kind != CLOSE) return refuse(1);
            }
            advance();
            for (int n = openAround; n < open; n++) emit(OPS + NEGATIVE);
            return true;
        }
    }

    /** A STORY WALKED by THE LAW: mud is what is on behind it. */
    private static final class Walk {
        static final int MOST = 1000000;
        static final int STACK = 64;
        static final int TAKE_WITHOUT = 10;

        final Layers mud;
        private final int[] soil;
        private int soilAll;
        private final int[] words;
        private final int[] stack;
        private int top;
        private Laws laws;
        private int law;

        Walk() {
            mud = new Layers();
            soil = new int[SORTS];
            words = new int[Laws.WORDS];
            stack = new int[STACK];
        }

        void follow(State state, Laws book, int story) {
            laws = book;
            law = state.theLaw;
            mud.count = 0;
            if (!isStory(story)) return;
            for (int step = 0; step < state.stories.counts[story]; step++) {
                soilAll = state.land.soilInto(state.stories.part(story, step, 0), soil, 0);
                words[0] = state.stories.part(story, step, 1);
                words[1] = state.stories.part(story, step, 2);
                words[10] = step;
                if (soilAll > 0) tread();
            }
        }

        private void tread() {
            look();
            mud.lessen(within(judge(Laws.LOSE, 0), 0, 100));
            look();
            if (judge(Laws.FALLS, 0) != 0) mud.dropOutermost();
            look();
            int take = within(judge(Laws.TAKE, TAKE_WITHOUT), 0, LAYER_MOST);
            int grains = 0;
            for (int sort = 0; sort < SORTS; sort++) grains += grainsOf(take, sort);
            if (grains < 1) return;
            boolean isNew = mud.count < LAYERS && judge(Laws.NEW, 0) != 0;
            if (mud.count < 1 || isNew) mud.addEmpty();
            int outermost = mud.count - 1;
            for (int sort = 0; sort < SORTS; sort++) {
                int amount = mud.amount(outermost, sort) + grainsOf(take, sort);
                mud.put(outermost, sort, Math.min(WALKED_MOST, amount));
            }
        }

        private int grainsOf(int take, int sort) {
            return soilAll < 1 ? 0 : take * soil[sort] / soilAll;
        }

        /** WORDS as they are now. */
        private void look() {
            for (int sort = 0; sort < SORTS; sort++) words[2 + sort] = soilAll < 1 ? 0 : 1000 * soil[sort] / soilAll;
            int outermost = mud.count - 1;
            words[7] = mud.count;
            words[8] = mud.mass(outermost);
            words[9] = outermost < 0 ? FAR_MOST : farBetween(mud.amounts, outermost * SORTS, soil, 0);
        }

        /** What THE LAW says now of a clause; of new and falls 1 if one of them is so. */
        private int judge(int clause, int without) {
            if (laws == null || !isWithin(law, 0, LAWS - 1)) return without;
            int answer = without;
            top = 0;
            for (int i = 0; i < laws.codeLengths[law] && i < TEXT; i++) {
                int sign = laws.code[law * TEXT + i];
                if (sign < Laws.OPS) {
                    push(sign);
                } else if (isWithin(sign - Laws.OPS, Laws.TAKE, Laws.FALLS)) {
                    int value = pop();
                    boolean isAsked = sign - Laws.OPS == clause;
                    boolean isSum = clause == Laws.TAKE || clause == Laws.LOSE;
                    if (isAsked && (isSum || value != 0)) answer = value;
                } else {
                    work(sign - Laws.OPS);
                }
            }
            return answer;
        }

        private void push(int value) {
            if (top >= STACK) return;
            stack[top] = value;
            top++;
        }

        private int pop() {
            if (top < 1) return 0;
            top--;
            return stack[top];
        }

        private void work(int kind) {
            if (isWithin(kind, Laws.WORD, Laws.WORD + Laws.WORDS - 1)) {
                push(words[kind - Laws.WORD]);
            } else if (kind == Laws.NEGATIVE) {
                push(-pop());
            } else if (kind == Laws.NOT) {
                push(1 - pop());
            } else {
                int right = pop();
                int left = pop();
                push(reckon(kind, left, right));
            }
        }

        private static int reckon(int kind, int left, int right) {
            switch (kind) {
                case Laws.OR: return left | right;
                case Laws.AND: return left & right;
                case Laws.LESS: return left < right ? 1 : 0;
                case Laws.MORE: return left > right ? 1 : 0;
                case Laws.SAME: return left == right ? 1 : 0;
                case Laws.UNLIKE: return left != right ? 1 : 0;
                case Laws.NOT_MORE: return left <= right ? 1 : 0;
                case Laws.NOT_LESS: return left >= right ? 1 : 0;
                case Laws.PLUS: return within(left + right, -MOST, MOST);
                case Laws.MINUS: return within(left - right, -MOST, MOST);
                case Laws.TIMES: return (int) Math.max(-MOST, Math.min(MOST, (long) left * right));
                case Laws.BY: return right == 0 ? 0 : left / right;
                default: return 0;
            }
        }
    }

    /** LAYERS that were WALKED held against those of THE BOOT. */
    private static final class Pairing {
        static final int ROW = LAYERS + 1;

        final int[] partners;
        private final int[] costs;
        int least;
        int walkedAlone;
        int bootAlone;

        Pairing() {
            partners = new int[LAYERS];
            costs = new int[ROW * ROW];
        }

        void pair(Layers mud, Layers boot, int missing, int odd) {
            for (int i = mud.count; i >= 0; i--) {
                for (int j = boot.count; j >= 0; j--) costs[i * ROW + j] = cheapest(mud, boot, i, j, missing, odd);
            }
            least = costs[0];
            trace(mud, boot, missing);
        }

        /** The least cost of the LAYERS from i and from j on. */
        private int cheapest(Layers mud, Layers boot, int i, int j, int missing, int odd) {
            if (i >= mud.count) return (boot.count - j) * odd;
            if (j >= boot.count) return (mud.count - i) * missing;
            int paired = pairCost(mud, boot, i, j);
            int walkedLeft = costs[(i + 1) * ROW + j] + missing;
            int bootLeft = costs[i * ROW + j + 1] + odd;
            return Math.min(paired, Math.min(walkedLeft, bootLeft));
        }

        private int pairCost(Layers mud, Layers boot, int i, int j) {
            int far = farBetween(mud.amounts, i * SORTS, boot.amounts, j * SORTS);
            return far + costs[(i + 1) * ROW + j + 1];
        }

        /** Of like costs a pair is ahead of a WALKED LAYER in none, that ahead of one of THE BOOT in none. */
        private void trace(Layers mud, Layers boot, int missing) {
            for (int j = 0; j < LAYERS; j++) partners[j] = NONE;
            walkedAlone = 0;
            bootAlone = 0;
            int i = 0;
            int j = 0;
            for (int n = 0; n < 2 * LAYERS && (i < mud.count || j < boot.count); n++) {
                boolean both = i < mud.count && j < boot.count;
                if (both && pairCost(mud, boot, i, j) == costs[i * ROW + j]) {
                    partners[j] = i;
                    i++;
                    j++;
                } else if (i < mud.count && costs[(i + 1) * ROW + j] + missing == costs[i * ROW + j]) {
                    walkedAlone++;
                    i++;
                } else {
                    bootAlone++;
                    j++;
                }
            }
        }
    }
}
