public final class Example {
    public static void main(String[] args) {
        ThunderCartel cartel = new ThunderCartel();
        cartel.addMember(40, 7);
        cartel.addMember(30, 3);
        cartel.assign(25);
        System.out.println("quotas " + cartel.quota(0) + " and " + cartel.quota(1));

        cartel.saveSnapshot();
        cartel.sell(0, 20);
        cartel.audit(2);
        System.out.println("excess " + cartel.excess(0) + ", standing " + cartel.standing(0));
        StringBuilder line = new StringBuilder();
        int length = cartel.writeMember(0);
        for (int i = 0; i < length; i++) {
            line.append(cartel.lineCharacter(i));
        }
        System.out.println("line " + line);

        // a call that is denied changes nothing, and tells why
        try {
            cartel.sell(1, 31);
        } catch (UnsupportedOperationException denied) {
            System.out.println("denial " + cartel.denial() + " with detail " + cartel.denialDetail());
        }

        // a text is executed whole or not at all, and is one change
        for (char character : "sell 1 5;close".toCharArray()) {
            cartel.feed(character);
        }
        System.out.println("commands " + cartel.execute());
        System.out.println("month " + cartel.month() + ", fines " + cartel.fines());

        System.out.println("changes that can be undone " + cartel.undo());
        System.out.println("month " + cartel.month() + ", sales " + cartel.sales(0));
        cartel.restoreSnapshot();
        System.out.println("sales " + cartel.sales(0) + ", standing " + cartel.standing(0));
    }
}
