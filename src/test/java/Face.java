/** The document's calls, so that one run of calls can be told to the program and to the model. */
interface Face {
    int BAD = -1, NONE = -2, FULL = -3;

    int write(int map, int key, int stamp);

    int spread(int map, int key, int step, int many, int stamp);

    int read(int map, int key);

    int erase(int map, int key);

    int cut(int map, int from, int to);

    int next(int map, int key);

    int clone(int map, int from);

    int drop(int map);

    int keep();

    int back();

    int keys(int map);

    int check();
}
