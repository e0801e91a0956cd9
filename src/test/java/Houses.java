/** Houses that several tests start with. */
final class Houses {
    private Houses() {
    }

    /** The room 2 lies in 1, and 1 and 3 in 0; 3 has no map. */
    static RoomNumbers nested() {
        RoomNumbers x = new RoomNumbers();
        x.fork(0);
        x.makeRoom(1);
        x.makeRoom(1);
        x.line(10, 100, 10);
        x.line(0, 300, 5);
        Check.due("the map of the room 1", 2, x.writeMap(0, 1));
        x.line(500, 11, 2);
        Check.due("the map of the room 2", 1, x.writeMap(0, 2));
        x.fork(0);
        Check.due("the third room", 3, x.makeRoom(2));
        return x;
    }

    /** The process 0 is in the room 1, the process 1 in the room 0 with all rights. */
    static RoomNumbers withRoom() {
        RoomNumbers x = new RoomNumbers();
        x.fork(0);
        x.makeRoom(0);
        return x;
    }

    /** The process 1 is in the room 1, and 0 in the room 0; the room 1 has 100 to 109 as 0 to 9. */
    static RoomNumbers mapped() {
        RoomNumbers x = new RoomNumbers();
        x.fork(0);
        x.makeRoom(1);
        x.line(0, 100, 10);
        Check.due("the map", 1, x.writeMap(0, 1));
        return x;
    }
}
