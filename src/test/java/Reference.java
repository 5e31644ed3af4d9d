import java.io.ByteArrayOutputStream;
import java.nio.ByteBuffer;
import java.security.GeneralSecurityException;
import java.security.MessageDigest;
import java.util.ArrayList;
import java.util.Arrays;
import java.util.Iterator;
import java.util.List;
import javax.crypto.Mac;
import javax.crypto.spec.SecretKeySpec;

/** The terms 1 to 3 of the document, word for word, over the Java library's SHA-256 and HMAC. */
final class Reference {
    private Reference() {
    }

    static byte[] hash(byte[]... parts) {
        try {
            return MessageDigest.getInstance("SHA-256").digest(join(parts));
        } catch (GeneralSecurityException e) {
            throw new IllegalStateException(e);
        }
    }

    static byte[] join(byte[]... parts) {
        ByteArrayOutputStream all = new ByteArrayOutputStream();
        for (byte[] part : parts) {
            all.write(part, 0, part.length);
        }
        return all.toByteArray();
    }

    static byte[] join(List<byte[]> parts) {
        return join(parts.toArray(new byte[0][]));
    }

    static byte[] leaf(byte[] entry) {
        return hash(new byte[] {0}, entry);
    }

    static byte[] node(byte[] a, byte[] b) {
        return hash(new byte[] {1}, a, b);
    }

    static long front(long n) {
        return Long.highestOneBit(n - 1);
    }

    static byte[] root(List<byte[]> leaves) {
        int n = leaves.size();
        if (n == 0) {
            return hash();
        }
        if (n == 1) {
            return leaves.get(0);
        }
        int k = (int) front(n);
        return node(root(leaves.subList(0, k)), root(leaves.subList(k, n)));
    }

    static List<byte[]> way(int i, List<byte[]> leaves) {
        int n = leaves.size();
        if (n == 1) {
            return new ArrayList<>();
        }
        int k = (int) front(n);
        List<byte[]> frontLeaves = leaves.subList(0, k);
        List<byte[]> backLeaves = leaves.subList(k, n);
        List<byte[]> digests = i < k ? way(i, frontLeaves) : way(i - k, backLeaves);
        digests.add(root(i < k ? backLeaves : frontLeaves));
        return digests;
    }

    static List<byte[]> steps(int m, List<byte[]> leaves, boolean outside) {
        int n = leaves.size();
        List<byte[]> digests = new ArrayList<>();
        if (m == n) {
            if (!outside) {
                digests.add(root(leaves));
            }
            return digests;
        }
        int k = (int) front(n);
        List<byte[]> frontLeaves = leaves.subList(0, k);
        List<byte[]> backLeaves = leaves.subList(k, n);
        digests = m <= k ? steps(m, frontLeaves, outside) : steps(m - k, backLeaves, false);
        digests.add(root(m <= k ? backLeaves : frontLeaves));
        return digests;
    }

    static int wayDigests(long i, long n) {
        if (n == 1) {
            return 0;
        }
        long k = front(n);
        return 1 + (i < k ? wayDigests(i, k) : wayDigests(i - k, n - k));
    }

    static int stepDigests(long m, long n, boolean outside) {
        if (m == n) {
            return outside ? 0 : 1;
        }
        long k = front(n);
        return 1 + (m <= k ? stepDigests(m, k, outside) : stepDigests(m - k, n - k, false));
    }

    static byte[] rootByWay(byte[] leaf, long i, long n, Iterator<byte[]> digests) {
        if (n == 1) {
            return leaf;
        }
        long k = front(n);
        if (i < k) {
            byte[] frontRoot = rootByWay(leaf, i, k, digests);
            return node(frontRoot, digests.next());
        }
        byte[] backRoot = rootByWay(leaf, i - k, n - k, digests);
        return node(digests.next(), backRoot);
    }

    /** The ROOT of the m LEAVES and that of the n LEAVES. */
    static byte[][] rootsBySteps(byte[] first, long m, long n, boolean outside, Iterator<byte[]> digests) {
        if (m == n) {
            byte[] whole = outside ? first : digests.next();
            return new byte[][] {whole, whole};
        }
        long k = front(n);
        if (m <= k) {
            byte[][] inFront = rootsBySteps(first, m, k, outside, digests);
            return new byte[][] {inFront[0], node(inFront[1], digests.next())};
        }
        byte[][] inBack = rootsBySteps(first, m - k, n - k, false, digests);
        byte[] frontRoot = digests.next();
        return new byte[][] {node(frontRoot, inBack[0]), node(frontRoot, inBack[1])};
    }

    static List<byte[]> digestsFrom(byte[] bytes, int place) {
        List<byte[]> digests = new ArrayList<>();
        for (int at = place; at + 32 <= bytes.length; at += 32) {
            digests.add(Arrays.copyOfRange(bytes, at, at + 32));
        }
        return digests;
    }

    static boolean isIn(byte[] told, long i, long n) {
        if (i < 0 || i >= n || told.length < 64 || (told.length - 64) % 32 != 0) {
            return false;
        }
        List<byte[]> all = digestsFrom(told, 0);
        List<byte[]> digests = all.subList(2, all.size());
        return digests.size() == wayDigests(i, n)
                && Arrays.equals(all.get(0), rootByWay(all.get(1), i, n, digests.iterator()));
    }

    static boolean isOn(byte[] told, long m, long n) {
        if (m <= 0 || m > n || told.length < 64 || (told.length - 64) % 32 != 0) {
            return false;
        }
        List<byte[]> all = digestsFrom(told, 0);
        List<byte[]> digests = all.subList(2, all.size());
        if (digests.size() != stepDigests(m, n, true)) {
            return false;
        }
        byte[][] roots = rootsBySteps(all.get(0), m, n, true, digests.iterator());
        return Arrays.equals(all.get(0), roots[0]) && Arrays.equals(all.get(1), roots[1]);
    }

    static byte[] numbers(long time, long size) {
        return ByteBuffer.allocate(16).putLong(time).putLong(size).array();
    }

    /** The HEAD of TIME, SIZE and ROOT (48 bytes), sealed. */
    static byte[] sealed(byte[] key, byte[] told) {
        try {
            Mac mac = Mac.getInstance("HmacSHA256");
            // The library refuses a KEY of no bytes; HMAC pads it with zeros, so one zero is the same KEY.
            mac.init(new SecretKeySpec(key.length == 0 ? new byte[1] : key, "HmacSHA256"));
            return join(told, mac.doFinal(join(new byte[] {0, 1}, told)));
        } catch (GeneralSecurityException e) {
            throw new IllegalStateException(e);
        }
    }
}
