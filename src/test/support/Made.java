/** The states in which calls are tried; each object is made anew, always by the same calls. */
enum Made {
    /** Nothing was called yet. */
    NEW {
        @Override
        GateMaker make() {
            return new GateMaker();
        }
    },
    /** ACTS, and all else that can be told; nothing is laid, there was no run. */
    UNLAID {
        @Override
        GateMaker make() {
            return withAllTold();
        }
    },
    /** A PLAIN run, nothing is laid. */
    RAN_PLAIN {
        @Override
        GateMaker make() {
            GateMaker x = withAllTold();
            x.run(false);
            return x;
        }
    },
    /** Laid, there was no run. */
    LAID {
        @Override
        GateMaker make() {
            GateMaker x = withAllTold();
            x.lay();
            return x;
        }
    },
    /** Laid, and run so. */
    RAN_LAID {
        @Override
        GateMaker make() {
            GateMaker x = withAllTold();
            x.lay();
            x.run(true);
            return x;
        }
    },
    /** Laid, and the run FAILED. */
    FAILED {
        @Override
        GateMaker make() {
            GateMaker x = withAllTold();
            x.touch(2, -1, 8);
            x.lay();
            x.run(true);
            return x;
        }
    },
    /** 16 ACTS, laid and run. */
    FULL {
        @Override
        GateMaker make() {
            GateMaker x = withAllTold();
            x.touch(0, -1, 8);
            x.pick(1, 2, 3, 16);
            x.reckon(2, 6, 7, 8);
            x.reckon(3, 8, 0, 8);
            x.reckon(6, 9, 1, 8);
            x.port(0, -1, 8);
            x.port(1, 10, 8);
            x.touch(0, 11, 8);
            x.port(2, 12, 8);
            x.constant(1, 4);
            x.lay();
            x.run(true);
            return x;
        }
    };

    abstract GateMaker make();

    /** SHELF 0 holds nothing, 1, 4 and 7 an ACT, 2 and 5 a ROW of ints, 3 and 6 a ROW of longs. */
    private static GateMaker withAllTold() {
        GateMaker x = new GateMaker();
        x.constant(3, 8);
        x.port(0, -1, 8);
        x.reckon(4, 0, 1, 16);
        x.reckon(5, 2, 0, 16);
        x.touch(0, 3, 8);
        x.port(1, 3, 16);
        x.feed(0, 10);
        x.feed(0, 11);
        x.feed(3, 12);
        x.place(2, 99);
        x.place(15, -7);
        x.parts(1, 2);
        x.length(2, 3, true);
        x.keep(1, 1, 3);
        x.make(2, 3, 3);
        x.keep(3, 4, 0);
        x.keep(4, 1, 0);
        x.make(5, 3, 0);
        x.make(6, 4, 4);
        x.keep(7, 1, 1);
        return x;
    }
}
