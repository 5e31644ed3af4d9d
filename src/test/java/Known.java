/** Entries, roots and digests that are known of RFC 6962's trees, which are these trees, and numbers out of range. */
final class Known {
    static final String NO_LEAVES = "e3b0c44298fc1c149afbf4c8996fb92427ae41e4649b934ca495991b7852b855";
    static final String[] ENTRIES = {
        "", "00", "10", "2021", "3031", "40414243", "5051525354555657", "606162636465666768696a6b6c6d6e6f"
    };
    /** By how many of the ENTRIES are in the tree. */
    static final String[] ROOTS = {
        NO_LEAVES,
        "6e340b9cffb37a989ca544e6bb780a2c78901d3fb33738768511a30617afa01d",
        "fac54203e7cc696cf0dfcb42c92a1d9dbaf70ad9e621f4bd8d98662f00e3c125",
        "aeb6bcfe274b70a14fb067a5e5578264db0fa9b51af5e0ba159158f329e06e77",
        "d37ee418976dd95753c1c73862b9398fa2a2cf9b4ff0fdfe8b30cd95209614b7",
        "4e3bbb1f7b478dcfe71fb631631519a3bca12c9aefca1612bfce4c13a86264d4",
        "76e67dadbcdf1e10e1b74ddc608abd2f98dfb16fbce75277b5232a127f2087ef",
        "ddb89be403809e325750d3d263cd78929c2942b7942a34b77e122c9594a74c8c",
        "5dc9da79a70659a9ad559cb701ded9a2ab9d823aad2f4960cfe370eff4604328"
    };
    static final String LEAF_1 = "96a296d224f285c67bee93c30f8a309157f0daa35dc5b87e410b78630a09cfc7";
    static final String LEAF_4 = "bc1a0643b12e4d2d7c77918f44e0f4f79a838b6cf9ec5b5c283e1f4d88599e6b";
    /** Named by the number of the first LEAF below it and of the first behind it. */
    static final String ROOT_2_4 = "5f083f0a1a33ca076a95279832580db3e0ef4584bdff1f54c8a360f50de3031e";
    static final String ROOT_4_8 = "6b47aaf29ee3c2af9af889bc1fb9254dabd31177f16232dd6aab035ca39bf6e4";
    static final String ROOT_4_6 = "0ebc5d3437fbe2db158b9f126a1d118e308181031d0a949f8dededebc558ef6a";
    static final String ROOT_6_8 = "ca854ea128ed050b41b35ffc1b87b8eb2bde461e9e3b5596ece6b9d5975a0ae0";

    static final String SOME = "11".repeat(32);
    static final String OTHER = "22".repeat(32);
    /** Unlike SOME in the last bit alone. */
    static final String NEARLY = "11".repeat(31) + "10";

    static final int[] NO_LOGS = {-1, 2, Integer.MIN_VALUE, Integer.MAX_VALUE};
    static final int[] NO_WITNESSES = {-1, 4, Integer.MIN_VALUE, Integer.MAX_VALUE};

    private Known() {
    }
}
