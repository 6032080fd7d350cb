import java.util.StringJoiner;

/** All that can be seen of an object, in rows of calls short enough for its 512. */
enum Views {
    NOW {
        @Override
        String of(Used used) {
            return task(used) + trail(used) + asked(used);
        }
    },
    CUTS {
        @Override
        String of(Used used) {
            StringJoiner told = new StringJoiner(" ");
            told.add(used.cuts().toString());
            for (int cut = 0; cut < Math.min(4, used.about(5)); cut++) {
                told.add("follows " + used.follows(cut));
            }
            return told.toString();
        }
    },
    UNDONE {
        @Override
        String of(Used used) {
            StringJoiner told = new StringJoiner(" / ");
            for (int left = used.about(10); left >= 0; left--) {
                told.add("undo " + used.undo() + " hope " + used.about(6) + " cuts " + used.about(5)
                    + " break " + used.about(4) + " marks " + used.marks() + " level " + used.about(3));
            }
            return told.toString();
        }
    },
    FIRST_SLOT {
        @Override
        String of(Used used) {
            return "again " + used.again(0) + " acts " + used.about(10) + trail(used) + used.cuts();
        }
    },
    SECOND_SLOT {
        @Override
        String of(Used used) {
            return "again " + used.again(1) + " acts " + used.about(10) + trail(used) + used.cuts();
        }
    },
    SEED {
        @Override
        String of(Used used) {
            long seed = used.seed(4);
            return "seed " + seed + " drawn " + used.drawn(10) + " then " + used.seed(0);
        }
    },
    ROOM {
        @Override
        String of(Used used) {
            return "write " + used.write('r') + " fault " + used.fault() + " see " + used.see(0, 0, 1, 1)
                + " which " + used.which() + " unsee " + used.unsee() + " which " + used.which()
                + " run " + used.run(2) + " acts " + used.about(10) + trail(used);
        }
    },
    TOLD_ANEW {
        @Override
        String of(Used used) {
            return "fault " + used.fault() + " task " + used.task() + task(used) + trail(used)
                + " wipe " + used.wipe() + " unsee " + used.unsee();
        }
    };

    abstract String of(Used used);

    private static String task(Used used) {
        StringJoiner told = new StringJoiner(" ", " task ", "");
        for (int what = 0; what <= 12; what++) {
            told.add("about " + what + " " + used.about(what));
        }
        int numbers = used.about(0);
        for (int x = 0; x < numbers; x++) {
            for (int what = 0; what <= 3; what++) {
                told.add("number " + x + " " + what + " " + used.number(x, what));
            }
        }
        int rules = used.about(1);
        for (int rule = 0; rule < rules; rule++) {
            for (int what = 0; what <= 5; what++) {
                told.add("rule " + rule + " " + what + " " + used.rule(rule, what));
            }
        }
        return told.toString();
    }

    private static String trail(Used used) {
        return " marks " + used.marks() + " levels " + used.row(1) + " reasons " + used.row(2)
            + " hope " + used.about(6);
    }

    private static String asked(Used used) {
        return " which " + used.which() + " fault " + used.fault() + " share " + used.share(0, true) + " by "
            + used.share(0, false) + " chance " + used.chance(2, 3, true) + " judge " + used.judge(1, 101);
    }
}
