import java.math.BigInteger;
import java.security.GeneralSecurityException;
import java.security.MessageDigest;
import java.util.Arrays;
import javax.crypto.Cipher;
import javax.crypto.Mac;
import javax.crypto.spec.ChaCha20ParameterSpec;
import javax.crypto.spec.IvParameterSpec;
import javax.crypto.spec.SecretKeySpec;

/** The same primitives by other means: the Java library's, and the curve over BigInteger. */
final class Reference {
    static final BigInteger P = BigInteger.ONE.shiftLeft(255).subtract(BigInteger.valueOf(19));
    private static final BigInteger A24 = BigInteger.valueOf(121665);

    private Reference() {
    }

    static String hex(byte[] bytes) {
        return Check.hex(bytes);
    }

    static byte[] join(byte[]... parts) {
        int size = 0;
        for (byte[] part : parts) {
            size += part.length;
        }
        byte[] whole = new byte[size];
        int at = 0;
        for (byte[] part : parts) {
            System.arraycopy(part, 0, whole, at, part.length);
            at += part.length;
        }
        return whole;
    }

    static byte[] sha256(byte[] data) {
        try {
            return MessageDigest.getInstance("SHA-256").digest(data);
        } catch (GeneralSecurityException e) {
            throw new IllegalStateException(e);
        }
    }

    static byte[] hmac(byte[] key, byte[] data) {
        try {
            Mac mac = Mac.getInstance("HmacSHA256");
            mac.init(new SecretKeySpec(key, "HmacSHA256"));
            return mac.doFinal(data);
        } catch (GeneralSecurityException e) {
            throw new IllegalStateException(e);
        }
    }

    /** HKDF of the framework with two outputs. */
    static byte[][] hkdf(byte[] chainingKey, byte[] input) {
        byte[] extracted = hmac(chainingKey, input);
        byte[] first = hmac(extracted, new byte[] {1});
        return new byte[][] {first, hmac(extracted, join(first, new byte[] {2}))};
    }

    static byte[] seal(byte[] key, long n, byte[] associated, byte[] plain) {
        try {
            return cipher(Cipher.ENCRYPT_MODE, key, n, associated).doFinal(plain);
        } catch (GeneralSecurityException e) {
            throw new IllegalStateException(e);
        }
    }

    /** null: refused. */
    static byte[] open(byte[] key, long n, byte[] associated, byte[] sealed) {
        if (sealed.length < 16) {
            return null;
        }
        try {
            return cipher(Cipher.DECRYPT_MODE, key, n, associated).doFinal(sealed);
        } catch (GeneralSecurityException e) {
            return null;
        }
    }

    private static Cipher cipher(int mode, byte[] key, long n, byte[] associated) throws GeneralSecurityException {
        Cipher cipher = Cipher.getInstance("ChaCha20-Poly1305");
        cipher.init(mode, new SecretKeySpec(key, "ChaCha20"), new IvParameterSpec(nonce(n)));
        cipher.updateAAD(associated);
        return cipher;
    }

    static byte[] chaCha20(byte[] key, long n, int block, byte[] plain) {
        try {
            Cipher cipher = Cipher.getInstance("ChaCha20");
            cipher.init(Cipher.ENCRYPT_MODE, new SecretKeySpec(key, "ChaCha20"),
                    new ChaCha20ParameterSpec(nonce(n), block));
            return cipher.doFinal(plain);
        } catch (GeneralSecurityException e) {
            throw new IllegalStateException(e);
        }
    }

    private static byte[] nonce(long n) {
        byte[] nonce = new byte[12];
        for (int i = 0; i < 8; i++) {
            nonce[4 + i] = (byte) (n >>> 8 * i);
        }
        return nonce;
    }

    static byte[] publicKey(byte[] secret) {
        byte[] nine = new byte[32];
        nine[0] = 9;
        return x25519(secret, nine);
    }

    static byte[] x25519(byte[] secret, byte[] point) {
        byte[] masked = point.clone();
        masked[31] &= 127;
        return toLittle(ladder(decodeScalar(secret), fromLittle(masked).mod(P)), 32);
    }

    static BigInteger decodeScalar(byte[] secret) {
        byte[] scalar = secret.clone();
        scalar[0] &= (byte) 248;
        scalar[31] = (byte) (scalar[31] & 127 | 64);
        return fromLittle(scalar);
    }

    /** k times the point u, for any k below 2 to the 255. */
    static BigInteger ladder(BigInteger k, BigInteger u) {
        BigInteger x2 = BigInteger.ONE;
        BigInteger z2 = BigInteger.ZERO;
        BigInteger x3 = u;
        BigInteger z3 = BigInteger.ONE;
        for (int t = 254; t >= 0; t--) {
            boolean bit = k.testBit(t);
            BigInteger xa = bit ? x3 : x2;
            BigInteger za = bit ? z3 : z2;
            BigInteger xb = bit ? x2 : x3;
            BigInteger zb = bit ? z2 : z3;
            BigInteger a = xa.add(za);
            BigInteger b = xa.subtract(za);
            BigInteger aa = a.multiply(a).mod(P);
            BigInteger bb = b.multiply(b).mod(P);
            BigInteger e = aa.subtract(bb);
            BigInteger da = xb.subtract(zb).multiply(a).mod(P);
            BigInteger cb = xb.add(zb).multiply(b).mod(P);
            BigInteger both = da.add(cb);
            BigInteger apart = da.subtract(cb);
            BigInteger addedX = both.multiply(both).mod(P);
            BigInteger addedZ = u.multiply(apart.multiply(apart)).mod(P);
            BigInteger doubledX = aa.multiply(bb).mod(P);
            BigInteger doubledZ = e.multiply(aa.add(A24.multiply(e))).mod(P);
            x2 = bit ? addedX : doubledX;
            z2 = bit ? addedZ : doubledZ;
            x3 = bit ? doubledX : addedX;
            z3 = bit ? doubledZ : addedZ;
        }
        return x2.multiply(z2.modPow(P.subtract(BigInteger.TWO), P)).mod(P);
    }

    static BigInteger fromLittle(byte[] bytes) {
        byte[] big = new byte[bytes.length];
        for (int i = 0; i < bytes.length; i++) {
            big[i] = bytes[bytes.length - 1 - i];
        }
        return new BigInteger(1, big);
    }

    static byte[] toLittle(BigInteger value, int size) {
        byte[] little = new byte[size];
        for (int i = 0; i < size; i++) {
            little[i] = value.shiftRight(8 * i).byteValue();
        }
        return little;
    }

    static byte[] part(byte[] from, int at, int size) {
        return Arrays.copyOfRange(from, at, at + size);
    }
}
