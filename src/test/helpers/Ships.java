/** The calls of the document, which the program and the second model both answer. */
interface Ships {
    int setIsland(int hex, int is);

    int addShip(int captain, int hex, int heading, int sails, int crew, int guns);

    int setTimber(int captain, int timber);

    int tell(int captain, int card);

    int sail(int ship, int path);

    int fire(int ship, int side, int target);

    int grapple(int ship, int other);

    int cut(int ship);

    int repair(int ship, int what);

    int end();

    int take(int slot);

    int restore(int slot);

    int undo();

    int append(int character);

    int clearText();

    int carryOut();

    int count(int what);

    int captain(int captain, int what);

    int ship(int ship, int what);

    int on(int hex);

    int targets(int ship, int side);

    int hits(int ship, int side, int target);

    int way(int ship, int hex, int what);

    int reach(int ship);

    int windBy(int one, int other);

    int bestCard(int ship, int hex, int what);

    int threats(int ship);

    int strength(int captain);
}
