import java.io.IOException;

/** Every sentence of the document that names a boundary, with the smallest, the largest and what is past them. */
public final class BoundariesTest {
    public static void main(String[] args) throws IOException {
        Doc.read();
        TermsBoundaries.run();
        TermsOfCallsBoundaries.run();
        MembersBoundaries.run();
        QuotasBoundaries.run();
        AuditsBoundaries.run();
        VotesBoundaries.run();
        AccountsBoundaries.run();
        TextsBoundaries.run();
        UndoBoundaries.run();
        Doc.noneIsLeft();
        Check.end();
    }
}
