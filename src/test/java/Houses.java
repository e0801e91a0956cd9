/** Houses that several tests start with. */
final class Houses {
    private Houses() {
    }

    /** The room 2 lies in 1, and 1 and 3 in 0; 3 has no map. */
    static RoomNumbers nested() {
        RoomNumbers x = new RoomNumbers();
        x.fork(0);
        x.makeRoom(1);
        x.makeRoom(1);
        x.line(10, 100, 10);
        x.line(0, 300, 5);
        Check.due("the map of the room 1", 2, x.writeMap(0, 1));
        x.line(500, 11, 2);
        Check.due("the map of the room 2", 1, x.writeMap(0, 2));
        x.fork(0);
        Check.due("the third room", 3, x.makeRoom(2));
        return x;
    }

    /** The process 0 is in the room 1, the process 1 in the room 0 with all rights. */
    static RoomNumbers withRoom() {
        RoomNumbers x = new RoomNumbers();
        x.fork(0);
        x.makeRoom(0);
        return x;
    }

    /** The process 1 is in the room 1, and 0 in the room 0; the room 1 has 100 to 109 as 0 to 9. */
    static RoomNumbers mapped() {
        RoomNumbers x = new RoomNumbers();
        x.fork(0);
        x.makeRoom(1);
        x.line(0, 100, 10);
        Check.due("the map", 1, x.writeMap(0, 1));
        return x;
    }

    /**
     * Someone for each refusal. The rooms: 1 in 0 with 100 to 109 as 0 to 9, 2 in 1 and 3 in 0
     * without maps, 3 owned by 105, the others by 0. The processes: 0 in the room 0 with all
     * rights, 1 in 2, 2 in 3 with the number 105, 3 in 0 with CHOWN and SETNUMBER, 4 in 0 without
     * rights, 5 in 1. The files: 0 of 0, 1 of 105. The latest refusal is -5.
     */
    static RoomNumbers peopled() {
        RoomNumbers x = mapped();
        x.makeRoom(1);
        x.fork(0);
        x.setNumber(2, 105);
        x.makeRoom(2);
        x.fork(0);
        x.drop(3, 5);
        x.fork(0);
        x.drop(4, 15);
        x.fork(0);
        x.enter(5, 1);
        x.makeFile(0, 6);
        x.makeFile(0, 5);
        x.handOver(0, 1, 105);
        Check.due("a refusal", -5, x.enter(0, 0));
        return x;
    }

    /** With 2 lines in the draft. */
    static RoomNumbers drafted() {
        RoomNumbers x = peopled();
        x.line(10, 20, 3);
        Check.due("the second line of the draft", 2, x.line(50, 60, 1));
        return x;
    }

    /** With 10 rooms, 12 processes, 20 files and 3 lines in the draft. */
    static RoomNumbers full() {
        RoomNumbers x = drafted();
        Check.due("the third line of the draft", 3, x.line(998, 998, 1));
        for (int process = 6; process < 12; process++) {
            Check.due("fork", process, x.fork(0));
        }
        for (int room = 4; room < 10; room++) {
            Check.due("makeRoom", room, x.makeRoom(room < 8 ? 6 : 7));
        }
        for (int file = 2; file < 20; file++) {
            Check.due("makeFile", file, x.makeFile(file % 3 == 0 ? 3 : 0, file % 16));
        }
        return x;
    }
}
