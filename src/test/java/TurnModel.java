import java.util.List;

/** TURNS as Java itself has them: classes under classes, interfaces with bodies of their own. */
final class TurnModel {
    private TurnModel() {
    }

    static Turn make(int kind, int number, List<Integer> trace) {
        Turn turn = switch (kind) {
            case 0 -> new Turn();
            case 1 -> new Broad();
            case 2 -> new Thin();
            case 3 -> new Silk();
            case 4 -> new Knot();
            case 5 -> new Mirror();
            case 6 -> new Clip();
            default -> new Bow();
        };
        turn.number = number;
        turn.kind = kind;
        turn.trace = trace;
        return turn;
    }

    static boolean isUnder(Turn turn, int kind) {
        return switch (kind) {
            case 0 -> true;
            case 1 -> turn instanceof Broad;
            case 2 -> turn instanceof Thin;
            case 3 -> turn instanceof Silk;
            case 4 -> turn instanceof Knot;
            case 5 -> turn instanceof Mirror;
            case 6 -> turn instanceof Clip;
            default -> turn instanceof Bow;
        };
    }

    interface Lies {
        int n();

        void began(int body);

        default int lies(int x) {
            began(1);
            return x + n();
        }
    }

    interface Tells {
        int takes(int x);

        int slips(int x);

        void began(int body);

        default int tells(int x) {
            began(2);
            return takes(x) - slips(1);
        }
    }

    static class Turn implements Lies, Tells {
        int number;
        int kind;
        List<Integer> trace;

        @Override
        public int n() {
            return number;
        }

        @Override
        public void began(int body) {
            trace.add(body);
        }

        @Override
        public int takes(int x) {
            began(10);
            return lies(x) * 2;
        }

        @Override
        public int slips(int x) {
            began(11);
            return x ^ number;
        }

        int acted(int act, int x) {
            return switch (act) {
                case 0 -> lies(x);
                case 1 -> takes(x);
                case 2 -> slips(x);
                default -> tells(x);
            };
        }
    }

    static class Broad extends Turn {
        @Override
        public int lies(int x) {
            began(20);
            return super.lies(x) + 3;
        }
    }

    static class Thin extends Turn {
        @Override
        public int takes(int x) {
            began(30);
            return -super.takes(x);
        }
    }

    static class Silk extends Thin {
        @Override
        public int slips(int x) {
            began(40);
            return super.slips(x) * 3;
        }

        @Override
        public int takes(int x) {
            began(41);
            return super.takes(x + 1);
        }
    }

    static class Knot extends Broad {
        @Override
        public int slips(int x) {
            began(50);
            return super.slips(x) - lies(2);
        }
    }

    static class Mirror extends Silk {
        @Override
        public int tells(int x) {
            began(60);
            return super.tells(x) ^ 5;
        }
    }

    static class Clip extends Turn {
        @Override
        public int lies(int x) {
            began(70);
            return super.lies(x) * 2;
        }
    }

    static class Bow extends Knot {
        @Override
        public int takes(int x) {
            began(80);
            return super.takes(x) + slips(2);
        }

        @Override
        public int tells(int x) {
            began(81);
            return super.tells(x) - 1;
        }
    }
}
