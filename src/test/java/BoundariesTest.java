import java.io.IOException;

/**
 * Every sentence of the document's terms and promises: the ones that name a boundary with the smallest, the largest
 * and what is past them, the other ones with ordinary answers.
 */
public final class BoundariesTest {
    public static void main(String[] args) throws IOException {
        Doc.read();
        TermsBoundaries.run();
        TermsOfCallsBoundaries.run();
        MembersBoundaries.run();
        QuotasBoundaries.run();
        AuditsBoundaries.run();
        VotesBoundaries.run();
        AccountsBoundaries.run();
        TextsBoundaries.run();
        UndoBoundaries.run();
        OrdinaryAnswers.run();
        Doc.noneIsLeft();
        Check.end();
    }
}
