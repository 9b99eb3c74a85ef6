/** Theatres that the tests begin with. */
final class Stage {
    private Stage() {
    }

    /** The crank is at this count, all wheels locked, no other call remembered but the latest ones that are saved. */
    static CrankTheatre at(int count) {
        CrankTheatre x = new CrankTheatre();
        int sign = count < 0 ? -1 : 1;
        int left = count * sign;
        while (left > 0) {
            int steps = Math.min(left, 60);
            Check.equal("a turn on the way to " + count, x.turn(sign * steps), steps);
            left -= steps;
        }
        return x;
    }

    /**
     * Something of everything: stops, the crank caught, loose wheels, filed teeth, two scenes, six saved states, a
     * snapshot and a text in the buffer. One trap is out.
     */
    static CrankTheatre played() {
        CrankTheatre x = new CrankTheatre();
        x.file(2, 3, 9);
        x.file(3, 5, 6);
        x.remember();
        x.turn(2);
        x.clutch(1);
        x.hand(1, 3);
        x.set(6);
        x.keep();
        x.change(4, 7);
        x.turn(1);
        x.stop(3);
        x.remember();
        x.stop(40);
        Check.type(x, "(+3k1l)2");
        return x;
    }

    /** Nothing more goes in: six scenes, six saved states, 60 characters, a snapshot. The crank is lifted. */
    static CrankTheatre full() {
        CrankTheatre x = new CrankTheatre();
        for (int scene = 0; scene < 6; scene++) {
            Check.equal("scene", x.remember(), scene);
            x.turn(-1);
        }
        x.stop(54);
        x.keep();
        x.clutch(0);
        x.clutch(3);
        x.lift();
        for (int length = 1; length <= 60; length++) {
            x.append('l');
        }
        return x;
    }

    /** Both traps are out and the moon is at the setting, 4; all wheels are loose. */
    static CrankTheatre tight() {
        CrankTheatre x = new CrankTheatre();
        x.turn(4);
        x.file(2, 4, 5);
        x.file(3, 4, 5);
        x.file(0, 1, 4);
        x.file(1, 5, 4);
        for (int wheel = 0; wheel < 5; wheel++) {
            x.clutch(wheel);
        }
        x.keep();
        return x;
    }

    /** Wheels of so many teeth, each with the height that its top had at first. */
    static CrankTheatre teeth(int... teeth) {
        CrankTheatre x = new CrankTheatre();
        for (int wheel = 0; wheel < 5; wheel++) {
            x.change(wheel, teeth[wheel]);
        }
        return x;
    }
}
