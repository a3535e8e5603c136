/** The calls of the document's face, by which the class and the Model are both asked. */
interface Face {
  int one(int kind, int v, int has);

  int of(int person, int what);

  int urge(int person, int sentence);

  int learn(int person, int sentences);

  int ford(int person, boolean isBeyond);

  int worth(int sentence, int n);

  int row(int person, int part, int n);

  int feed(int sign);

  int bridge();

  int told(int what);

  int pass(int n);

  int on(int n, int what);

  int decoy(int person, int sentence);

  int see(int person, int sentence);

  int can(int person, int what);

  long odds(int person, int part);

  long mean(int n, int part);

  int plan(int what, int n);

  int ends(int what);

  int book(int sentence, int worth);

  int looked();

  int judge(int tape, int i);

  int image();

  int undo();

  int act(int person, int act, int x);

  int trace(int i);

  int taken(int person, int k);

  int count(int what);

  int tape(int tape, int sort, int n);

  int item(int tape, int i, long v);

  long read(int tape, int i);

  int shift(int tape, int i, int other, int j, int n);
}
