/**
 * A house of nested rooms in which users have numbers: each room maps its numbers to those of the
 * room outside of it, rights hold in a room and in those inside it, files are owned by the
 * outermost numbers, and what a process may do is told with a reason.
 */
public final class RoomNumbers {
    public static final int NOBODY = 999;
    public static final int NONE = -1;
    public static final int ADMIN = 1, CHOWN = 2, OVERRIDE = 4, SETNUMBER = 8;

    private static final int ALL_RIGHTS = 15;
    private static final int HIGHEST_NUMBER = 998;
    private static final int HIGHEST_MODE = 15;
    private static final int MAX_ROOMS = 10;
    private static final int MAX_LINES = 3;
    private static final int MAX_LENGTH = 999;
    private static final int MAX_PROCESSES = 12;
    private static final int MAX_FILES = 20;

    private static final int OWNER_READS = 1;
    private static final int OWNER_WRITES = 2;
    private static final int OTHERS_READ = 4;
    private static final int OTHERS_WRITE = 8;

    private static final int RIGHT_MISSING = -1;
    private static final int NOT_SEEN = -2;
    private static final int NOT_TOLD_BY_MAP = -3;
    private static final int DONE_ALREADY = -4;
    private static final int NOT_INSIDE = -5;
    private static final int MODE_FORBIDS = -6;

    private static final int OPENED_BY_MODE = 1;
    private static final int OPENED_BY_OVERRIDE = 2;

    private final Room[] roomRow;
    private int roomCount;
    private final HouseProcess[] processRow;
    private int processCount;
    private final HouseFile[] fileRow;
    private int fileCount;
    private Line draft;
    private int refusalCount;
    private int latestRefusal;

    public RoomNumbers() {
        Room outermost = new Room(0, null, NONE);
        roomRow = new Room[MAX_ROOMS];
        roomRow[0] = outermost;
        roomCount = 1;
        processRow = new HouseProcess[MAX_PROCESSES];
        processRow[0] = new HouseProcess(outermost, 0, ALL_RIGHTS);
        processCount = 1;
        fileRow = new HouseFile[MAX_FILES];
        fileCount = 0;
        draft = null;
        refusalCount = 0;
        latestRefusal = 0;
    }

    // ---- rooms and maps

    public int makeRoom(int process) throws IndexOutOfBoundsException, IllegalStateException {
        HouseProcess maker = processAt(process);
        if (roomCount >= roomRow.length) {
            throw new IllegalStateException("there are 10 rooms");
        }
        Room made = new Room(roomCount, maker.room, maker.number);
        roomRow[roomCount] = made;
        roomCount++;
        maker.moveInto(made);
        return made.number;
    }

    public int line(int first, int outer, int length)
            throws IllegalArgumentException, IllegalStateException {
        requireNumber(first);
        requireNumber(outer);
        // The length comes before the sums, which could wrap around with a larger one.
        if (length < 1 || length > MAX_LENGTH) {
            throw new IllegalArgumentException("a length is 1 to 999");
        }
        requireNumber(first + length - 1);
        requireNumber(outer + length - 1);
        int before = countOf(draft);
        if (before >= MAX_LINES) {
            throw new IllegalStateException("the draft has 3 lines");
        }
        draft = new Line(first, outer, length, draft);
        return before + 1;
    }

    public int writeMap(int process, int room) throws IndexOutOfBoundsException {
        HouseProcess writer = processAt(process);
        Room mapped = roomAt(room);
        Room outer = mapped.outer;
        if (outer == null) {
            throw new IndexOutOfBoundsException("the room 0 has no map");
        }
        Line lines = draft;
        draft = null;
        if (mapped.map != null) {
            return refuse(DONE_ALREADY);
        }
        if (lines == null || anyMeet(lines)) {
            return refuse(NOT_TOLD_BY_MAP);
        }
        if (!allLeadOut(lines, outer)) {
            return refuse(NOT_SEEN);
        }
        boolean needsNoRight = lines.isOfOneNumber()
                && writer.number == mapped.owner
                && leadOut(outer, lines.outer) == writer.number;
        if (!needsNoRight && !writer.hasRight(SETNUMBER, outer)) {
            return refuse(RIGHT_MISSING);
        }
        mapped.map = lines;
        return countOf(lines);
    }

    public int rooms() {
        return roomCount;
    }

    public int outerOf(int room) throws IndexOutOfBoundsException {
        return numberOrNone(roomAt(room).outer);
    }

    public int leadsTo(int room, int number)
            throws IndexOutOfBoundsException, IllegalArgumentException {
        Room from = roomAt(room);
        requireNumber(number);
        return leadOut(from, number);
    }

    public int seenAs(int room, int outermost)
            throws IndexOutOfBoundsException, IllegalArgumentException {
        Room from = roomAt(room);
        requireNumber(outermost);
        return seenFrom(from, outermost);
    }

    public int seenByLeading(int room, int outermost)
            throws IndexOutOfBoundsException, IllegalArgumentException {
        Room from = roomAt(room);
        requireNumber(outermost);
        for (int number = 0; number <= HIGHEST_NUMBER; number++) {
            if (leadOut(from, number) == outermost) {
                return number;
            }
        }
        return NOBODY;
    }

    // ---- processes

    public int fork(int process) throws IndexOutOfBoundsException, IllegalStateException {
        HouseProcess forked = processAt(process);
        if (processCount >= processRow.length) {
            throw new IllegalStateException("there are 12 processes");
        }
        int made = processCount;
        processRow[made] = new HouseProcess(forked.room, forked.number, forked.rights);
        processCount++;
        return made;
    }

    public int drop(int process, int rights)
            throws IndexOutOfBoundsException, IllegalArgumentException {
        HouseProcess dropper = processAt(process);
        if (rights < 0 || rights > ALL_RIGHTS) {
            throw new IllegalArgumentException("rights are 0 to 15");
        }
        dropper.rights &= ~rights;
        return dropper.rights;
    }

    public int enter(int process, int room) throws IndexOutOfBoundsException {
        HouseProcess guest = processAt(process);
        Room entered = roomAt(room);
        if (!isOrIsInside(entered.outer, guest.room)) {
            return refuse(NOT_INSIDE);
        }
        if (!guest.hasRight(ADMIN, entered)) {
            return refuse(RIGHT_MISSING);
        }
        guest.moveInto(entered);
        return guest.rights;
    }

    public int setNumber(int process, int number)
            throws IndexOutOfBoundsException, IllegalArgumentException {
        HouseProcess taker = processAt(process);
        requireNumber(number);
        int taken = leadOut(taker.room, number);
        if (taken == NONE) {
            return refuse(NOT_SEEN);
        }
        if (taken != taker.number && !taker.hasRight(SETNUMBER, taker.room)) {
            return refuse(RIGHT_MISSING);
        }
        if (number != 0 && seenFrom(taker.room, taker.number) == 0) {
            taker.rights = 0;
        }
        taker.number = taken;
        return taken;
    }

    public int processes() {
        return processCount;
    }

    public int roomOf(int process) throws IndexOutOfBoundsException {
        return numberOrNone(processAt(process).room);
    }

    public int numberOf(int process) throws IndexOutOfBoundsException {
        return processAt(process).number;
    }

    public int rightsIn(int process, int room) throws IndexOutOfBoundsException {
        HouseProcess holder = processAt(process);
        return holder.rightsHeldIn(roomAt(room));
    }

    // ---- files

    public int makeFile(int process, int mode)
            throws IndexOutOfBoundsException, IllegalArgumentException, IllegalStateException {
        HouseProcess maker = processAt(process);
        if (mode < 0 || mode > HIGHEST_MODE) {
            throw new IllegalArgumentException("a mode is 0 to 15");
        }
        if (fileCount >= fileRow.length) {
            throw new IllegalStateException("there are 20 files");
        }
        if (seenFrom(maker.room, maker.number) == NOBODY) {
            return refuse(NOT_SEEN);
        }
        int made = fileCount;
        fileRow[made] = new HouseFile(maker.number, mode);
        fileCount++;
        return made;
    }

    public int handOver(int process, int file, int number)
            throws IndexOutOfBoundsException, IllegalArgumentException {
        HouseProcess giver = processAt(process);
        HouseFile given = fileAt(file);
        requireNumber(number);
        int newOwner = leadOut(giver.room, number);
        if (newOwner == NONE || seenFrom(giver.room, given.owner) == NOBODY) {
            return refuse(NOT_SEEN);
        }
        if (!giver.hasRight(CHOWN, giver.room)) {
            return refuse(RIGHT_MISSING);
        }
        given.owner = newOwner;
        return newOwner;
    }

    public int open(int process, int file, boolean writes) throws IndexOutOfBoundsException {
        HouseProcess opener = processAt(process);
        HouseFile opened = fileAt(file);
        if (opened.allows(opener.number, writes)) {
            return OPENED_BY_MODE;
        }
        if (!opener.hasRight(OVERRIDE, opener.room)) {
            return refuse(MODE_FORBIDS);
        }
        if (seenFrom(opener.room, opened.owner) == NOBODY) {
            return refuse(NOT_SEEN);
        }
        return OPENED_BY_OVERRIDE;
    }

    public int ownerSeenBy(int process, int file) throws IndexOutOfBoundsException {
        HouseProcess viewer = processAt(process);
        return seenFrom(viewer.room, fileAt(file).owner);
    }

    public int files() {
        return fileCount;
    }

    public int refusals() {
        return refusalCount;
    }

    public int lastRefusal() {
        return latestRefusal;
    }

    // ---- what the calls share

    private Room roomAt(int number) {
        if (number < 0 || number >= roomRow.length) {
            throw new IndexOutOfBoundsException("no such room");
        }
        Room found = roomRow[number];
        if (found == null) {
            throw new IndexOutOfBoundsException("no such room");
        }
        return found;
    }

    private HouseProcess processAt(int number) {
        if (number < 0 || number >= processRow.length) {
            throw new IndexOutOfBoundsException("no such process");
        }
        HouseProcess found = processRow[number];
        if (found == null) {
            throw new IndexOutOfBoundsException("no such process");
        }
        return found;
    }

    private HouseFile fileAt(int number) {
        if (number < 0 || number >= fileRow.length) {
            throw new IndexOutOfBoundsException("no such file");
        }
        HouseFile found = fileRow[number];
        if (found == null) {
            throw new IndexOutOfBoundsException("no such file");
        }
        return found;
    }

    private static void requireNumber(int number) {
        if (number < 0 || number > HIGHEST_NUMBER) {
            throw new IllegalArgumentException("a number is 0 to 998");
        }
    }

    private int refuse(int refusal) {
        refusalCount++;
        latestRefusal = refusal;
        return refusal;
    }

    /** Each room lies in an earlier one, so the row's order goes from the room 0 inwards. */
    private int seenFrom(Room room, int outermost) {
        int seen = outermost;
        for (Room passed : roomRow) {
            if (passed != null && isOrIsInside(room, passed)) {
                seen = passed.fromOuter(seen);
            }
        }
        return seen;
    }

    private static int countOf(Line lines) {
        int count = 0;
        for (Line each = lines; each != null; each = each.next) {
            count++;
        }
        return count;
    }

    private static boolean anyMeet(Line lines) {
        for (Line one = lines; one != null; one = one.next) {
            for (Line other = one.next; other != null; other = other.next) {
                if (one.meets(other)) {
                    return true;
                }
            }
        }
        return false;
    }

    private static boolean allLeadOut(Line lines, Room outer) {
        for (Line each = lines; each != null; each = each.next) {
            for (int k = 0; k < each.length; k++) {
                if (leadOut(outer, each.outer + k) == NONE) {
                    return false;
                }
            }
        }
        return true;
    }

    /** Leads a number of a room out, and answers NONE if it leads nowhere. */
    private static int leadOut(Room room, int number) {
        int led = number;
        for (Room at = room; at != null && led != NONE; at = at.outer) {
            led = at.toOuter(led);
        }
        return led;
    }

    private static boolean isOrIsInside(Room room, Room other) {
        for (Room at = room; at != null; at = at.outer) {
            if (at == other) {
                return true;
            }
        }
        return false;
    }

    private static int numberOrNone(Room room) {
        return room == null ? NONE : room.number;
    }

    /** A line of a map, and the lines beside it. */
    private static final class Line {
        final int first;
        final int outer;
        final int length;
        final Line next;

        Line(int first, int outer, int length, Line next) {
            this.first = first;
            this.outer = outer;
            this.length = length;
            this.next = next;
        }

        boolean isOfOneNumber() {
            return next == null && length == 1;
        }

        boolean meets(Line other) {
            return rangesMeet(first, length, other.first, other.length)
                    || rangesMeet(outer, length, other.outer, other.length);
        }

        private static boolean rangesMeet(int start, int length, int otherStart, int otherLength) {
            return start < otherStart + otherLength && otherStart < start + length;
        }
    }

    private static final class Room {
        final int number;
        final Room outer;
        final int owner;
        Line map;

        Room(int number, Room outer, int owner) {
            this.number = number;
            this.outer = outer;
            this.owner = owner;
            this.map = null;
        }

        int toOuter(int inner) {
            if (outer == null) {
                return inner;
            }
            for (Line each = map; each != null; each = each.next) {
                if (inner >= each.first && inner < each.first + each.length) {
                    return each.outer + (inner - each.first);
                }
            }
            return NONE;
        }

        /** NOBODY stays NOBODY, as no line has an outer number that high. */
        int fromOuter(int seenOutside) {
            if (outer == null) {
                return seenOutside;
            }
            for (Line each = map; each != null; each = each.next) {
                if (seenOutside >= each.outer && seenOutside < each.outer + each.length) {
                    return each.first + (seenOutside - each.outer);
                }
            }
            return NOBODY;
        }
    }

    private static final class HouseProcess {
        Room room;
        int number;
        int rights;

        HouseProcess(Room room, int number, int rights) {
            this.room = room;
            this.number = number;
            this.rights = rights;
        }

        void moveInto(Room entered) {
            room = entered;
            rights = ALL_RIGHTS;
        }

        int rightsHeldIn(Room asked) {
            if (ownsRoomAround(asked)) {
                return ALL_RIGHTS;
            }
            return isOrIsInside(asked, room) ? rights : 0;
        }

        boolean hasRight(int right, Room asked) {
            return (rightsHeldIn(asked) & right) != 0;
        }

        /** Only a room just inside the own one counts, not one further in. */
        private boolean ownsRoomAround(Room asked) {
            for (Room at = asked; at != null; at = at.outer) {
                if (at.outer == room && at.owner == number) {
                    return true;
                }
            }
            return false;
        }
    }

    private static final class HouseFile {
        int owner;
        final int mode;

        HouseFile(int owner, int mode) {
            this.owner = owner;
            this.mode = mode;
        }

        boolean allows(int user, boolean writes) {
            int asOwner = writes ? OWNER_WRITES : OWNER_READS;
            int asOther = writes ? OTHERS_WRITE : OTHERS_READ;
            return (mode & (user == owner ? asOwner : asOther)) != 0;
        }
    }
}
