/** Lines of a LAND's text, for the tests. */
final class Texts {
    /** The words that stand for themselves. */
    static final String[] WORDS = ("yard slope traffic warm way takes hour fall temp wet slip weight call harm depot store "
        + "grass road bridge roof").split(" ");

    private Texts() {
    }

    static String yard(String name, String sort, int slope, int traffic, String warm) {
        return "yard " + name + " " + sort + " slope " + slope + " traffic " + traffic + " warm " + warm + ";";
    }

    /** A road without slope and traffic, at 0. */
    static String road(String name) {
        return yard(name, "road", 0, 0, "0");
    }

    /** So many roads, from a on. */
    static String roads(int count) {
        StringBuilder s = new StringBuilder();
        for (int i = 0; i < count; i++) {
            s.append(road(letter(i)));
        }
        return s.toString();
    }

    static String letter(int i) {
        return String.valueOf((char) ('a' + i));
    }

    static String way(String from, String to, int takes) {
        return "way " + from + " " + to + " takes " + takes + ";";
    }

    /** So many WAYS between eight YARDS, from a on: to the next one, then to the next but one. */
    static String ways(int count) {
        StringBuilder s = new StringBuilder();
        for (int i = 0; i < count; i++) {
            s.append(way(letter(i % 8), letter((i + 1 + i / 8) % 8), 1));
        }
        return s.toString();
    }

    static String hour(int fall, int temp, int wet) {
        return "hour fall " + fall + " temp " + temp + " wet " + wet + ";";
    }

    static String hours(int count, int fall, int temp, int wet) {
        return hour(fall, temp, wet).repeat(count);
    }

    static String slip(int by, int weight) {
        return "slip " + by + " weight " + weight + ";";
    }

    /** So many SLIPS, from 0 on, each of weight 1. */
    static String slips(int count) {
        StringBuilder s = new StringBuilder();
        for (int i = 0; i < count; i++) {
            s.append(slip(i, 1));
        }
        return s.toString();
    }

    /** A LAND with as many lines of each sort as can be. */
    static String full() {
        return roads(8) + ways(16) + hours(12, 0, 0, 0) + slips(7) + "call 1;harm 1;depot h;store 1;";
    }
}
