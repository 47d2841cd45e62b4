import java.util.ArrayList;
import java.util.List;

/** All that can be asked of an object, in parts: some calls change it, so each part is asked of an object of its own. */
final class Portrait {
    interface Asked {
        long[] of(Script.Player player);
    }

    record Part(String name, Asked asked) {
    }

    static final List<Part> PARTS = List.of(
        new Part("counts", Portrait::counts), new Part("looks", Portrait::looks), new Part("ways", Portrait::ways),
        new Part("rules", Portrait::rules), new Part("the tape", Portrait::tape),
        new Part("arrivals", Portrait::arrivals), new Part("drives", Portrait::drives),
        new Part("plans", Portrait::plans), new Part("sights", Portrait::sights),
        new Part("later sights", Portrait::laterSights), new Part("bids", Portrait::bids),
        new Part("sales", Portrait::sales), new Part("weights", Portrait::weights), new Part("offs", Portrait::offs),
        new Part("marks", Portrait::marks), new Part("sorts", Portrait::sorts), new Part("room", Portrait::room));

    private Portrait() {
    }

    private static int places(Script.Player x) {
        return (int) x.ask("count", 1);
    }

    private static int lots(Script.Player x) {
        return (int) x.ask("count", 3);
    }

    private static long[] row(List<Long> answers) {
        return answers.stream().mapToLong(i -> i).toArray();
    }

    private static long[] counts(Script.Player x) {
        List<Long> all = new ArrayList<>();
        for (int what = 0; what <= 10; what++) {
            all.add(x.ask("count", what));
        }
        for (int i = 0; i < 4; i++) {
            all.add(x.ask("planned", i, 0));
            all.add(x.ask("planned", i, 1));
        }
        for (int owner = 0; owner < 6; owner++) {
            all.add(x.ask("account", owner));
        }
        for (int i = 0; i < 15; i++) {
            all.add(x.ask("row", i));
        }
        all.add(x.ask("tear"));
        all.add(x.ask("lay"));
        for (int i = 0; i < 15; i++) {
            all.add(x.ask("row", i));
        }
        return row(all);
    }

    private static long[] looks(Script.Player x) {
        List<Long> all = new ArrayList<>();
        int lots = lots(x);
        for (int lot = 0; lot < lots; lot++) {
            for (int what = 0; what <= 12; what++) {
                all.add(x.ask("look", lot, what));
            }
        }
        return row(all);
    }

    private static long[] ways(Script.Player x) {
        List<Long> all = new ArrayList<>();
        int places = places(x);
        for (int a = 0; a < places; a++) {
            for (int b = 0; b < a; b++) {
                all.add(x.ask("way", a, b));
                all.add(x.ask("by", a, b, 0));
                all.add(x.ask("by", a, b, 1));
            }
        }
        return row(all);
    }

    private static long[] rules(Script.Player x) {
        List<Long> all = new ArrayList<>();
        int lots = Math.min(6, lots(x));
        for (int lot = 0; lot < lots; lot++) {
            for (int key = 0; key <= 2; key++) {
                all.add(x.ask("said", lot, key));
            }
            for (int rule = 0; rule < 10; rule++) {
                all.add(x.ask("holds", rule, lot, -1));
                all.add(x.ask("holds", rule, lot, rule % 5));
            }
        }
        return row(all);
    }

    // What is on the tape shows in the rule that it becomes, or in the place of its fault.
    private static long[] tape(Script.Player x) {
        List<Long> all = new ArrayList<>();
        all.add(x.ask("rule", 0, 100000));
        long rules = x.ask("count", 4);
        for (int lot = 0; lot < 3; lot++) {
            for (int key = 0; key <= 2; key++) {
                all.add(x.ask("said", lot, key));
            }
            for (int buyer = -1; buyer < 5; buyer++) {
                all.add(x.ask("holds", (int) rules - 1, lot, buyer));
            }
        }
        all.add(x.ask("feed", '9', 1));
        all.add(x.ask("rule", 0, 100000));
        all.add(x.ask("wipe"));
        return row(all);
    }

    private static long[] arrivals(Script.Player x) {
        List<Long> all = new ArrayList<>();
        for (int i = 0; i < 60; i++) {
            all.add(x.ask("run", 1));
        }
        int lots = Math.min(24, lots(x));
        for (int lot = 0; lot < lots; lot++) {
            for (int what = 5; what <= 9; what++) {
                all.add(x.ask("look", lot, what));
            }
        }
        return row(all);
    }

    // Each lot is driven to the last place that takes it: when it is there tells which minutes are taken.
    private static long[] drives(Script.Player x) {
        List<Long> all = new ArrayList<>();
        int places = places(x);
        int lots = Math.min(12, lots(x));
        for (int lot = 0; lot < lots; lot++) {
            long there = -1;
            for (int place = places - 1; place >= 0 && there < 0; place--) {
                there = x.ask("drive", lot, place);
                all.add(there);
            }
        }
        return row(all);
    }

    private static long[] plans(Script.Player x) {
        List<Long> all = new ArrayList<>();
        int places = places(x);
        int lots = Math.min(8, lots(x));
        for (int lot = 0; lot < lots; lot++) {
            for (int place = 0; place < places; place++) {
                all.add(x.ask("plan", 1 << lot, 1 << place));
            }
        }
        all.add(x.ask("planned", 0, 0));
        all.add(x.ask("planned", 0, 1));
        return row(all);
    }

    private static long[] sights(Script.Player x) {
        List<Long> all = new ArrayList<>();
        int lots = lots(x);
        for (int lot = 0; lot < lots; lot++) {
            for (int buyer = 0; buyer < 5; buyer++) {
                all.add(x.ask("see", buyer, lot));
            }
            all.add(x.ask("water", lot));
        }
        return row(all);
    }

    // A buyer that has seen a lot has seen it in each pen to which it is driven.
    private static long[] laterSights(Script.Player x) {
        List<Long> all = new ArrayList<>();
        int places = places(x);
        int lots = Math.min(380 / (3 * places + 6), lots(x));
        all.add(x.ask("run", 600));
        for (int lot = 0; lot < lots; lot++) {
            long seen = -1;
            for (int place = 0; place < places && seen < 0; place++) {
                all.add(x.ask("drive", lot, place));
                all.add(x.ask("run", 600));
                seen = x.ask("see", 0, lot);
                all.add(seen);
            }
            for (int buyer = 1; buyer < 5; buyer++) {
                all.add(x.ask("see", buyer, lot));
            }
            all.add(x.ask("bid", 0, lot, 9999));
            all.add(x.ask("drive", lot, places - 1));
        }
        return row(all);
    }

    private static long[] bids(Script.Player x) {
        List<Long> all = new ArrayList<>();
        int lots = lots(x);
        for (int lot = 0; lot < lots; lot++) {
            all.add(x.ask("hold", lot, 0));
            for (int buyer = 0; buyer < 5; buyer++) {
                all.add(x.ask("bid", buyer, lot, 1));
            }
        }
        return row(all);
    }

    private static long[] sales(Script.Player x) {
        List<Long> all = new ArrayList<>();
        int lots = lots(x);
        for (int lot = 0; lot < lots; lot++) {
            all.add(x.ask("sell", lot));
            all.add(x.ask("look", lot, 11));
            all.add(x.ask("hold", lot, 1));
        }
        return row(all);
    }

    // What was bid for a lot shows in the money that it fetches once it is sold and weighed.
    private static long[] weights(Script.Player x) {
        List<Long> all = new ArrayList<>();
        int places = places(x);
        int lots = Math.min(6, lots(x));
        for (int lot = 0; lot < lots; lot++) {
            all.add(x.ask("weigh", lot));
            all.add(x.ask("sell", lot));
        }
        for (int lot = 0; lot < lots; lot++) {
            for (int place = 0; place < places; place++) {
                if (x.ask("drive", lot, place) >= 0) {
                    all.add(x.ask("run", 400));
                    all.add(x.ask("weigh", lot));
                }
            }
            all.add(x.ask("look", lot, 12));
        }
        return row(all);
    }

    private static long[] offs(Script.Player x) {
        List<Long> all = new ArrayList<>();
        int places = places(x);
        for (int place = 0; place < places; place++) {
            all.add(x.ask("off", place, 13));
            all.add(x.ask("test", place));
            all.add(x.ask("off", place, 1));
        }
        int lots = lots(x);
        for (int lot = 0; lot < lots; lot++) {
            all.add(x.ask("look", lot, 12));
        }
        return row(all);
    }

    // A lot that has been judged comes to no doubt by a mark that is near its own.
    private static long[] marks(Script.Player x) {
        List<Long> all = new ArrayList<>();
        int lots = lots(x);
        for (int lot = 0; lot < lots; lot++) {
            int mark = (int) x.ask("look", lot, 4);
            int other = mark % 10 == 9 ? mark - 1 : mark + 1;
            all.add(x.ask("whose", mark));
            all.add(x.ask("near", mark));
            all.add(x.ask("write", other, (int) (x.ask("look", lot, 1) + 1) % 6));
            all.add(x.ask("look", lot, 10));
        }
        all.add(x.ask("whose", 0));
        all.add(x.ask("near", 0));
        all.add(x.ask("whose", 9999));
        all.add(x.ask("near", 9999));
        return row(all);
    }

    private static long[] sorts(Script.Player x) {
        List<Long> all = new ArrayList<>();
        int places = places(x);
        int lots = Math.min(12, lots(x));
        for (int lot = 0; lot < lots; lot++) {
            for (int place = 0; place < places; place++) {
                all.add(x.ask("sort", lot, 1, 10 * place, 5));
            }
            all.add(x.ask("judge", lot, 5));
        }
        return row(all);
    }

    private static long[] room(Script.Player x) {
        List<Long> all = new ArrayList<>();
        int places = places(x);
        for (int place = 0; place < places; place++) {
            all.add(x.ask("lot", place, 0, 10100, 0, 0));
        }
        all.add(x.ask("place", 1));
        for (int i = 0; i < 20; i++) {
            all.add(x.ask("alley", 0, 1, 30));
            all.add(x.ask("write", 7 * i, 0));
        }
        return row(all);
    }
}
