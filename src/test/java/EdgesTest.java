import java.io.IOException;
import java.nio.file.Path;

/** A test for the words of the document that name a boundary, or a refusal; Edges looks them up in the document. */
public final class EdgesTest {
    public static void main(String[] args) throws IOException {
        Checks check = new Checks();
        Edges edges = new Edges(Path.of("../shared/DOC.md"), check);
        CaveEdges.all(edges);
        DeedEdges.all(edges);
        MinuteEdges.all(edges);
        ValueEdges.all(edges);
        WhatIfEdges.all(edges);
        TextEdges.all(edges);
        StateEdges.all(edges);
        edges.end();
        check.end("EdgesTest");
    }
}
