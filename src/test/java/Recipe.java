/** What is told to a new land, in at most 200 calls, so that questions can follow within the 512 of an object. */
interface Recipe {
    void make(NameLand land);
}
