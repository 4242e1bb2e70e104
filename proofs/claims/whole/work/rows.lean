section
/-- a private method of a class that the tables say can be made, by its rows of tables_1 -/
def lw_okq (q : MethodName × Nat) : Prop := (q.1.cls ≠ "java/lang/invoke/MethodHandle" ∧ q.1.cls ≠ "java/lang/invoke/VarHandle") ∧ Cond.instantiable q.1.cls q.2 ∈ tables_1 ∧ Cond.privateMethod q.1 ∈ tables_1 ∧ Cond.instanceMethod q.1 ∈ tables_1
theorem lw_p0 : lw_okq (⟨"CursorRewriter", "endDefinition", "()I"⟩, 8) := ⟨⟨by decide +kernel, by decide +kernel⟩, List.mem_of_getElem? (i := 10) (by decide +kernel), List.mem_of_getElem? (i := 190) (by decide +kernel), List.mem_of_getElem? (i := 191) (by decide +kernel)⟩
theorem lw_p1 : lw_okq (⟨"CursorRewriter$Statement", "readElement", "()Z"⟩, 6) := ⟨⟨by decide +kernel, by decide +kernel⟩, List.mem_of_getElem? (i := 18) (by decide +kernel), List.mem_of_getElem? (i := 198) (by decide +kernel), List.mem_of_getElem? (i := 199) (by decide +kernel)⟩
theorem lw_p2 : lw_okq (⟨"CursorRewriter$Statement", "next", "()C"⟩, 6) := ⟨⟨by decide +kernel, by decide +kernel⟩, List.mem_of_getElem? (i := 18) (by decide +kernel), List.mem_of_getElem? (i := 202) (by decide +kernel), List.mem_of_getElem? (i := 203) (by decide +kernel)⟩
theorem lw_p3 : lw_okq (⟨"CursorRewriter$Statement", "readBrackets", "()Z"⟩, 6) := ⟨⟨by decide +kernel, by decide +kernel⟩, List.mem_of_getElem? (i := 18) (by decide +kernel), List.mem_of_getElem? (i := 213) (by decide +kernel), List.mem_of_getElem? (i := 214) (by decide +kernel)⟩
theorem lw_p4 : lw_okq (⟨"CursorRewriter$Statement", "skip", "(C)Z"⟩, 6) := ⟨⟨by decide +kernel, by decide +kernel⟩, List.mem_of_getElem? (i := 18) (by decide +kernel), List.mem_of_getElem? (i := 217) (by decide +kernel), List.mem_of_getElem? (i := 218) (by decide +kernel)⟩
theorem lw_p5 : lw_okq (⟨"CursorRewriter", "endRule", "()I"⟩, 8) := ⟨⟨by decide +kernel, by decide +kernel⟩, List.mem_of_getElem? (i := 10) (by decide +kernel), List.mem_of_getElem? (i := 225) (by decide +kernel), List.mem_of_getElem? (i := 226) (by decide +kernel)⟩
theorem lw_p6 : lw_okq (⟨"CursorRewriter$Statement", "hasOpeningBrace", "()Z"⟩, 6) := ⟨⟨by decide +kernel, by decide +kernel⟩, List.mem_of_getElem? (i := 18) (by decide +kernel), List.mem_of_getElem? (i := 237) (by decide +kernel), List.mem_of_getElem? (i := 238) (by decide +kernel)⟩
theorem lw_p7 : lw_okq (⟨"CursorRewriter$Statement", "readContext", "(LCursorRewriter$Rule;)Z"⟩, 6) := ⟨⟨by decide +kernel, by decide +kernel⟩, List.mem_of_getElem? (i := 18) (by decide +kernel), List.mem_of_getElem? (i := 241) (by decide +kernel), List.mem_of_getElem? (i := 242) (by decide +kernel)⟩
theorem lw_p8 : lw_okq (⟨"CursorRewriter$Statement", "readQuantifier", "()C"⟩, 6) := ⟨⟨by decide +kernel, by decide +kernel⟩, List.mem_of_getElem? (i := 18) (by decide +kernel), List.mem_of_getElem? (i := 248) (by decide +kernel), List.mem_of_getElem? (i := 249) (by decide +kernel)⟩
theorem lw_p9 : lw_okq (⟨"CursorRewriter$Statement", "readKey", "(LCursorRewriter$Rule;)Z"⟩, 6) := ⟨⟨by decide +kernel, by decide +kernel⟩, List.mem_of_getElem? (i := 18) (by decide +kernel), List.mem_of_getElem? (i := 256) (by decide +kernel), List.mem_of_getElem? (i := 257) (by decide +kernel)⟩
theorem lw_p10 : lw_okq (⟨"CursorRewriter$Statement", "readReplacement", "(LCursorRewriter$Rule;)Z"⟩, 6) := ⟨⟨by decide +kernel, by decide +kernel⟩, List.mem_of_getElem? (i := 18) (by decide +kernel), List.mem_of_getElem? (i := 264) (by decide +kernel), List.mem_of_getElem? (i := 265) (by decide +kernel)⟩
theorem lw_p11 : lw_okq (⟨"CursorRewriter", "isMasked", "(LCursorRewriter$Rule;)Z"⟩, 8) := ⟨⟨by decide +kernel, by decide +kernel⟩, List.mem_of_getElem? (i := 10) (by decide +kernel), List.mem_of_getElem? (i := 280) (by decide +kernel), List.mem_of_getElem? (i := 281) (by decide +kernel)⟩
theorem lw_p12 : lw_okq (⟨"CursorRewriter", "rewrite", "(Z)I"⟩, 8) := ⟨⟨by decide +kernel, by decide +kernel⟩, List.mem_of_getElem? (i := 10) (by decide +kernel), List.mem_of_getElem? (i := 327) (by decide +kernel), List.mem_of_getElem? (i := 328) (by decide +kernel)⟩
theorem lw_p13 : lw_okq (⟨"CursorRewriter", "doAtCursor", "(Z)Z"⟩, 8) := ⟨⟨by decide +kernel, by decide +kernel⟩, List.mem_of_getElem? (i := 10) (by decide +kernel), List.mem_of_getElem? (i := 331) (by decide +kernel), List.mem_of_getElem? (i := 332) (by decide +kernel)⟩
theorem lw_p14 : lw_okq (⟨"CursorRewriter$Match", "takeBefore", "(LCursorRewriter$Rule;LCursorRewriter$Text;)Z"⟩, 1) := ⟨⟨by decide +kernel, by decide +kernel⟩, List.mem_of_getElem? (i := 143) (by decide +kernel), List.mem_of_getElem? (i := 339) (by decide +kernel), List.mem_of_getElem? (i := 340) (by decide +kernel)⟩
theorem lw_p15 : lw_okq (⟨"CursorRewriter$Match", "takeOnward", "(LCursorRewriter$Rule;LCursorRewriter$Text;IIZ)I"⟩, 1) := ⟨⟨by decide +kernel, by decide +kernel⟩, List.mem_of_getElem? (i := 143) (by decide +kernel), List.mem_of_getElem? (i := 347) (by decide +kernel), List.mem_of_getElem? (i := 348) (by decide +kernel)⟩
def lw_privs_1 : List (MethodName × Nat) := [(⟨"CursorRewriter", "endDefinition", "()I"⟩, 8), (⟨"CursorRewriter$Statement", "readElement", "()Z"⟩, 6), (⟨"CursorRewriter$Statement", "next", "()C"⟩, 6), (⟨"CursorRewriter$Statement", "readBrackets", "()Z"⟩, 6), (⟨"CursorRewriter$Statement", "skip", "(C)Z"⟩, 6), (⟨"CursorRewriter", "endRule", "()I"⟩, 8), (⟨"CursorRewriter$Statement", "hasOpeningBrace", "()Z"⟩, 6), (⟨"CursorRewriter$Statement", "readContext", "(LCursorRewriter$Rule;)Z"⟩, 6), (⟨"CursorRewriter$Statement", "readQuantifier", "()C"⟩, 6), (⟨"CursorRewriter$Statement", "readKey", "(LCursorRewriter$Rule;)Z"⟩, 6), (⟨"CursorRewriter$Statement", "readReplacement", "(LCursorRewriter$Rule;)Z"⟩, 6), (⟨"CursorRewriter", "isMasked", "(LCursorRewriter$Rule;)Z"⟩, 8), (⟨"CursorRewriter", "rewrite", "(Z)I"⟩, 8), (⟨"CursorRewriter", "doAtCursor", "(Z)Z"⟩, 8), (⟨"CursorRewriter$Match", "takeBefore", "(LCursorRewriter$Rule;LCursorRewriter$Text;)Z"⟩, 1), (⟨"CursorRewriter$Match", "takeOnward", "(LCursorRewriter$Rule;LCursorRewriter$Text;IIZ)I"⟩, 1)]
theorem lw_r1 : ∀ q ∈ lw_privs_1, lw_okq q := List.forall_mem_cons.mpr ⟨lw_p0, List.forall_mem_cons.mpr ⟨lw_p1, List.forall_mem_cons.mpr ⟨lw_p2, List.forall_mem_cons.mpr ⟨lw_p3, List.forall_mem_cons.mpr ⟨lw_p4, List.forall_mem_cons.mpr ⟨lw_p5, List.forall_mem_cons.mpr ⟨lw_p6, List.forall_mem_cons.mpr ⟨lw_p7, List.forall_mem_cons.mpr ⟨lw_p8, List.forall_mem_cons.mpr ⟨lw_p9, List.forall_mem_cons.mpr ⟨lw_p10, List.forall_mem_cons.mpr ⟨lw_p11, List.forall_mem_cons.mpr ⟨lw_p12, List.forall_mem_cons.mpr ⟨lw_p13, List.forall_mem_cons.mpr ⟨lw_p14, List.forall_mem_cons.mpr ⟨lw_p15, fun _ h => absurd h List.not_mem_nil⟩⟩⟩⟩⟩⟩⟩⟩⟩⟩⟩⟩⟩⟩⟩⟩
theorem lw_p16 : lw_okq (⟨"CursorRewriter", "apply", "(I)Z"⟩, 8) := ⟨⟨by decide +kernel, by decide +kernel⟩, List.mem_of_getElem? (i := 10) (by decide +kernel), List.mem_of_getElem? (i := 351) (by decide +kernel), List.mem_of_getElem? (i := 352) (by decide +kernel)⟩
theorem lw_p17 : lw_okq (⟨"CursorRewriter$Text", "putPiece", "(LCursorRewriter$Rule;LCursorRewriter$Match;II)I"⟩, 4) := ⟨⟨by decide +kernel, by decide +kernel⟩, List.mem_of_getElem? (i := 119) (by decide +kernel), List.mem_of_getElem? (i := 374) (by decide +kernel), List.mem_of_getElem? (i := 375) (by decide +kernel)⟩
theorem lw_p18 : lw_okq (⟨"CursorRewriterModel", "read", "()I"⟩, 32) := ⟨⟨by decide +kernel, by decide +kernel⟩, List.mem_of_getElem? (i := 414) (by decide +kernel), List.mem_of_getElem? (i := 521) (by decide +kernel), List.mem_of_getElem? (i := 522) (by decide +kernel)⟩
theorem lw_p19 : lw_okq (⟨"CursorRewriterModel", "define", "()I"⟩, 32) := ⟨⟨by decide +kernel, by decide +kernel⟩, List.mem_of_getElem? (i := 414) (by decide +kernel), List.mem_of_getElem? (i := 528) (by decide +kernel), List.mem_of_getElem? (i := 529) (by decide +kernel)⟩
theorem lw_p20 : lw_okq (⟨"CursorRewriterModel", "element", "(II)I"⟩, 32) := ⟨⟨by decide +kernel, by decide +kernel⟩, List.mem_of_getElem? (i := 414) (by decide +kernel), List.mem_of_getElem? (i := 532) (by decide +kernel), List.mem_of_getElem? (i := 533) (by decide +kernel)⟩
theorem lw_p21 : lw_okq (⟨"CursorRewriterModel", "at", "(II)I"⟩, 32) := ⟨⟨by decide +kernel, by decide +kernel⟩, List.mem_of_getElem? (i := 414) (by decide +kernel), List.mem_of_getElem? (i := 536) (by decide +kernel), List.mem_of_getElem? (i := 537) (by decide +kernel)⟩
theorem lw_p22 : lw_okq (⟨"CursorRewriterModel", "brackets", "(II)I"⟩, 32) := ⟨⟨by decide +kernel, by decide +kernel⟩, List.mem_of_getElem? (i := 414) (by decide +kernel), List.mem_of_getElem? (i := 544) (by decide +kernel), List.mem_of_getElem? (i := 545) (by decide +kernel)⟩
theorem lw_p23 : lw_okq (⟨"CursorRewriterModel", "place", "(I)I"⟩, 32) := ⟨⟨by decide +kernel, by decide +kernel⟩, List.mem_of_getElem? (i := 414) (by decide +kernel), List.mem_of_getElem? (i := 548) (by decide +kernel), List.mem_of_getElem? (i := 549) (by decide +kernel)⟩
theorem lw_p24 : lw_okq (⟨"CursorRewriterModel", "replacement", "(I)Z"⟩, 32) := ⟨⟨by decide +kernel, by decide +kernel⟩, List.mem_of_getElem? (i := 414) (by decide +kernel), List.mem_of_getElem? (i := 552) (by decide +kernel), List.mem_of_getElem? (i := 553) (by decide +kernel)⟩
theorem lw_p25 : lw_okq (⟨"CursorRewriterModel", "count", "(III)I"⟩, 32) := ⟨⟨by decide +kernel, by decide +kernel⟩, List.mem_of_getElem? (i := 414) (by decide +kernel), List.mem_of_getElem? (i := 556) (by decide +kernel), List.mem_of_getElem? (i := 557) (by decide +kernel)⟩
theorem lw_p26 : lw_okq (⟨"CursorRewriterModel", "row", "(IIZ)Z"⟩, 32) := ⟨⟨by decide +kernel, by decide +kernel⟩, List.mem_of_getElem? (i := 414) (by decide +kernel), List.mem_of_getElem? (i := 560) (by decide +kernel), List.mem_of_getElem? (i := 561) (by decide +kernel)⟩
theorem lw_p27 : lw_okq (⟨"CursorRewriterModel", "add", "(III)Z"⟩, 32) := ⟨⟨by decide +kernel, by decide +kernel⟩, List.mem_of_getElem? (i := 414) (by decide +kernel), List.mem_of_getElem? (i := 564) (by decide +kernel), List.mem_of_getElem? (i := 565) (by decide +kernel)⟩
theorem lw_p28 : lw_okq (⟨"CursorRewriterModel", "enter", "(III)I"⟩, 32) := ⟨⟨by decide +kernel, by decide +kernel⟩, List.mem_of_getElem? (i := 414) (by decide +kernel), List.mem_of_getElem? (i := 568) (by decide +kernel), List.mem_of_getElem? (i := 569) (by decide +kernel)⟩
theorem lw_p29 : lw_okq (⟨"CursorRewriterModel", "masks", "(II)Z"⟩, 32) := ⟨⟨by decide +kernel, by decide +kernel⟩, List.mem_of_getElem? (i := 414) (by decide +kernel), List.mem_of_getElem? (i := 572) (by decide +kernel), List.mem_of_getElem? (i := 573) (by decide +kernel)⟩
theorem lw_p30 : lw_okq (⟨"CursorRewriterModel", "plain", "(I)Z"⟩, 32) := ⟨⟨by decide +kernel, by decide +kernel⟩, List.mem_of_getElem? (i := 414) (by decide +kernel), List.mem_of_getElem? (i := 576) (by decide +kernel), List.mem_of_getElem? (i := 577) (by decide +kernel)⟩
theorem lw_p31 : lw_okq (⟨"CursorRewriterModel", "match", "(IZ)I"⟩, 32) := ⟨⟨by decide +kernel, by decide +kernel⟩, List.mem_of_getElem? (i := 414) (by decide +kernel), List.mem_of_getElem? (i := 601) (by decide +kernel), List.mem_of_getElem? (i := 602) (by decide +kernel)⟩
def lw_privs_2 : List (MethodName × Nat) := [(⟨"CursorRewriter", "apply", "(I)Z"⟩, 8), (⟨"CursorRewriter$Text", "putPiece", "(LCursorRewriter$Rule;LCursorRewriter$Match;II)I"⟩, 4), (⟨"CursorRewriterModel", "read", "()I"⟩, 32), (⟨"CursorRewriterModel", "define", "()I"⟩, 32), (⟨"CursorRewriterModel", "element", "(II)I"⟩, 32), (⟨"CursorRewriterModel", "at", "(II)I"⟩, 32), (⟨"CursorRewriterModel", "brackets", "(II)I"⟩, 32), (⟨"CursorRewriterModel", "place", "(I)I"⟩, 32), (⟨"CursorRewriterModel", "replacement", "(I)Z"⟩, 32), (⟨"CursorRewriterModel", "count", "(III)I"⟩, 32), (⟨"CursorRewriterModel", "row", "(IIZ)Z"⟩, 32), (⟨"CursorRewriterModel", "add", "(III)Z"⟩, 32), (⟨"CursorRewriterModel", "enter", "(III)I"⟩, 32), (⟨"CursorRewriterModel", "masks", "(II)Z"⟩, 32), (⟨"CursorRewriterModel", "plain", "(I)Z"⟩, 32), (⟨"CursorRewriterModel", "match", "(IZ)I"⟩, 32)]
theorem lw_r2 : ∀ q ∈ lw_privs_2, lw_okq q := List.forall_mem_cons.mpr ⟨lw_p16, List.forall_mem_cons.mpr ⟨lw_p17, List.forall_mem_cons.mpr ⟨lw_p18, List.forall_mem_cons.mpr ⟨lw_p19, List.forall_mem_cons.mpr ⟨lw_p20, List.forall_mem_cons.mpr ⟨lw_p21, List.forall_mem_cons.mpr ⟨lw_p22, List.forall_mem_cons.mpr ⟨lw_p23, List.forall_mem_cons.mpr ⟨lw_p24, List.forall_mem_cons.mpr ⟨lw_p25, List.forall_mem_cons.mpr ⟨lw_p26, List.forall_mem_cons.mpr ⟨lw_p27, List.forall_mem_cons.mpr ⟨lw_p28, List.forall_mem_cons.mpr ⟨lw_p29, List.forall_mem_cons.mpr ⟨lw_p30, List.forall_mem_cons.mpr ⟨lw_p31, fun _ h => absurd h List.not_mem_nil⟩⟩⟩⟩⟩⟩⟩⟩⟩⟩⟩⟩⟩⟩⟩⟩
theorem lw_p32 : lw_okq (⟨"CursorRewriterModel", "before", "(I)Z"⟩, 32) := ⟨⟨by decide +kernel, by decide +kernel⟩, List.mem_of_getElem? (i := 414) (by decide +kernel), List.mem_of_getElem? (i := 605) (by decide +kernel), List.mem_of_getElem? (i := 606) (by decide +kernel)⟩
theorem lw_p33 : lw_okq (⟨"CursorRewriterModel", "rowOf", "(IIZ)I"⟩, 32) := ⟨⟨by decide +kernel, by decide +kernel⟩, List.mem_of_getElem? (i := 414) (by decide +kernel), List.mem_of_getElem? (i := 609) (by decide +kernel), List.mem_of_getElem? (i := 610) (by decide +kernel)⟩
theorem lw_p34 : lw_okq (⟨"CursorRewriterModel", "standsFor", "(II)Z"⟩, 32) := ⟨⟨by decide +kernel, by decide +kernel⟩, List.mem_of_getElem? (i := 414) (by decide +kernel), List.mem_of_getElem? (i := 613) (by decide +kernel), List.mem_of_getElem? (i := 614) (by decide +kernel)⟩
theorem lw_p35 : lw_okq (⟨"CursorRewriterModel", "work", "(Z)I"⟩, 32) := ⟨⟨by decide +kernel, by decide +kernel⟩, List.mem_of_getElem? (i := 414) (by decide +kernel), List.mem_of_getElem? (i := 621) (by decide +kernel), List.mem_of_getElem? (i := 622) (by decide +kernel)⟩
theorem lw_p36 : lw_okq (⟨"CursorRewriterModel", "apply", "(I)Z"⟩, 32) := ⟨⟨by decide +kernel, by decide +kernel⟩, List.mem_of_getElem? (i := 414) (by decide +kernel), List.mem_of_getElem? (i := 625) (by decide +kernel), List.mem_of_getElem? (i := 626) (by decide +kernel)⟩
theorem lw_p37 : lw_okq (⟨"CursorRewriterModel", "given", "(II)I"⟩, 32) := ⟨⟨by decide +kernel, by decide +kernel⟩, List.mem_of_getElem? (i := 414) (by decide +kernel), List.mem_of_getElem? (i := 629) (by decide +kernel), List.mem_of_getElem? (i := 630) (by decide +kernel)⟩
def lw_privs_3 : List (MethodName × Nat) := [(⟨"CursorRewriterModel", "before", "(I)Z"⟩, 32), (⟨"CursorRewriterModel", "rowOf", "(IIZ)I"⟩, 32), (⟨"CursorRewriterModel", "standsFor", "(II)Z"⟩, 32), (⟨"CursorRewriterModel", "work", "(Z)I"⟩, 32), (⟨"CursorRewriterModel", "apply", "(I)Z"⟩, 32), (⟨"CursorRewriterModel", "given", "(II)I"⟩, 32)]
theorem lw_r3 : ∀ q ∈ lw_privs_3, lw_okq q := List.forall_mem_cons.mpr ⟨lw_p32, List.forall_mem_cons.mpr ⟨lw_p33, List.forall_mem_cons.mpr ⟨lw_p34, List.forall_mem_cons.mpr ⟨lw_p35, List.forall_mem_cons.mpr ⟨lw_p36, List.forall_mem_cons.mpr ⟨lw_p37, fun _ h => absurd h List.not_mem_nil⟩⟩⟩⟩⟩⟩
def lw_privs : List (MethodName × Nat) := lw_privs_1 ++ (lw_privs_2 ++ (lw_privs_3))
def lw_tbl : List Cond := k2_sels lw_privs ++ tables_1
theorem lw_privs_ok : ∀ q ∈ lw_privs, lw_okq q := by
  show ∀ q ∈ lw_privs_1 ++ (lw_privs_2 ++ (lw_privs_3)), lw_okq q
  exact List.forall_mem_append.mpr ⟨lw_r1, List.forall_mem_append.mpr ⟨lw_r2, lw_r3⟩⟩
def kv_tb : List Cond := lw_tbl.filter goodWord
def kv_isN (w : Cond) : Bool := match w with
  | .fieldLinkNest _ _ _ _ _ _ => true
  | .methodLinkNest _ _ _ _ => true
  | .arrayOver (.object _) => true
  | _ => false
def kv_nl : List Cond := tables_1.filter kv_isN
def RX0 : String := "CursorRewriter$Match"
def RX1 : String := "CursorRewriter$Rule"
def RX2 : String := "CursorRewriter$Statement"
def RX3 : String := "CursorRewriter$Text"
def RX4 : String := "CursorRewriter"
def RX5 : String := "CursorRewriterModel"
def RL : String := "CursorRewriterLaw"
def TX0 : u_T := fun k => match k with
  | _ => ("CursorRewriter$Match", "begins", "[I", true)
def tyX0 : Nat → FieldType := fun k => match k with
  | _ => (.array .int)
theorem nmX0 : ∀ a, a < 1 → ∀ b, b < 1 → a ≠ b → (TX0 a).2.1 ≠ (TX0 b).2.1 := by decide +kernel
theorem tyX0_ok : ∀ k, k < 1 → parseFieldDescriptor (TX0 k).2.2.1 = some (tyX0 k) := by decide +kernel
theorem inX0 : ∀ w ∈ u_ws RX0 TX0 1, w ∈ kv_tb := fun w h => List.mem_filter.mpr ⟨List.mem_append_right _ ((by decide +kernel : ∀ w ∈ u_ws RX0 TX0 1, w ∈ tables_1) w h), (by decide +kernel : ∀ w ∈ u_ws RX0 TX0 1, goodWord w = true) w h⟩
def TX1 : u_T := fun k => match k with
  | 0 => ("CursorRewriter$Rule", "sets", "[I", true)
  | 1 => ("CursorRewriter$Rule", "least", "[I", true)
  | 2 => ("CursorRewriter$Rule", "most", "[I", true)
  | 3 => ("CursorRewriter$Rule", "elementCount", "I", false)
  | 4 => ("CursorRewriter$Rule", "keyStart", "I", false)
  | 5 => ("CursorRewriter$Rule", "keyEnd", "I", false)
  | 6 => ("CursorRewriter$Rule", "hasQuantifier", "Z", false)
  | 7 => ("CursorRewriter$Rule", "segmentStarts", "[I", true)
  | 8 => ("CursorRewriter$Rule", "segmentEnds", "[I", true)
  | 9 => ("CursorRewriter$Rule", "segmentCount", "I", false)
  | 10 => ("CursorRewriter$Rule", "pieces", "[C", true)
  | 11 => ("CursorRewriter$Rule", "pieceCount", "I", false)
  | 12 => ("CursorRewriter$Rule", "greatestDigit", "I", false)
  | _ => ("CursorRewriter$Rule", "mark", "I", false)
def tyX1 : Nat → FieldType := fun k => match k with
  | 0 => (.array .int)
  | 1 => (.array .int)
  | 2 => (.array .int)
  | 3 => .int
  | 4 => .int
  | 5 => .int
  | 6 => .boolean
  | 7 => (.array .int)
  | 8 => (.array .int)
  | 9 => .int
  | 10 => (.array .char)
  | 11 => .int
  | 12 => .int
  | _ => .int
theorem nmX1 : ∀ a, a < 14 → ∀ b, b < 14 → a ≠ b → (TX1 a).2.1 ≠ (TX1 b).2.1 := by decide +kernel
theorem tyX1_ok : ∀ k, k < 14 → parseFieldDescriptor (TX1 k).2.2.1 = some (tyX1 k) := by decide +kernel
theorem inX1 : ∀ w ∈ u_ws RX1 TX1 14, w ∈ kv_tb := fun w h => List.mem_filter.mpr ⟨List.mem_append_right _ ((by decide +kernel : ∀ w ∈ u_ws RX1 TX1 14, w ∈ tables_1) w h), (by decide +kernel : ∀ w ∈ u_ws RX1 TX1 14, goodWord w = true) w h⟩
def TX2 : u_T := fun k => match k with
  | 0 => ("CursorRewriter$Statement", "typed", "[C", true)
  | 1 => ("CursorRewriter$Statement", "count", "I", false)
  | 2 => ("CursorRewriter$Statement", "at", "I", false)
  | 3 => ("CursorRewriter$Statement", "meanings", "[I", true)
  | 4 => ("CursorRewriter$Statement", "set", "I", false)
  | _ => ("CursorRewriter$Statement", "sawUndefined", "Z", false)
def tyX2 : Nat → FieldType := fun k => match k with
  | 0 => (.array .char)
  | 1 => .int
  | 2 => .int
  | 3 => (.array .int)
  | 4 => .int
  | _ => .boolean
theorem nmX2 : ∀ a, a < 6 → ∀ b, b < 6 → a ≠ b → (TX2 a).2.1 ≠ (TX2 b).2.1 := by decide +kernel
theorem tyX2_ok : ∀ k, k < 6 → parseFieldDescriptor (TX2 k).2.2.1 = some (tyX2 k) := by decide +kernel
theorem inX2 : ∀ w ∈ u_ws RX2 TX2 6, w ∈ kv_tb := fun w h => List.mem_filter.mpr ⟨List.mem_append_right _ ((by decide +kernel : ∀ w ∈ u_ws RX2 TX2 6, w ∈ tables_1) w h), (by decide +kernel : ∀ w ∈ u_ws RX2 TX2 6, goodWord w = true) w h⟩
def TX3 : u_T := fun k => match k with
  | 0 => ("CursorRewriter$Text", "letters", "[C", false)
  | 1 => ("CursorRewriter$Text", "spare", "[C", false)
  | 2 => ("CursorRewriter$Text", "size", "I", false)
  | _ => ("CursorRewriter$Text", "place", "I", false)
def tyX3 : Nat → FieldType := fun k => match k with
  | 0 => (.array .char)
  | 1 => (.array .char)
  | 2 => .int
  | _ => .int
theorem nmX3 : ∀ a, a < 4 → ∀ b, b < 4 → a ≠ b → (TX3 a).2.1 ≠ (TX3 b).2.1 := by decide +kernel
theorem tyX3_ok : ∀ k, k < 4 → parseFieldDescriptor (TX3 k).2.2.1 = some (tyX3 k) := by decide +kernel
theorem inX3 : ∀ w ∈ u_ws RX3 TX3 4, w ∈ kv_tb := fun w h => List.mem_filter.mpr ⟨List.mem_append_right _ ((by decide +kernel : ∀ w ∈ u_ws RX3 TX3 4, w ∈ tables_1) w h), (by decide +kernel : ∀ w ∈ u_ws RX3 TX3 4, goodWord w = true) w h⟩
def TX4 : u_T := fun k => match k with
  | 0 => ("CursorRewriter", "statement", "LCursorRewriter$Statement;", true)
  | 1 => ("CursorRewriter", "ruleRow", "[LCursorRewriter$Rule;", true)
  | 2 => ("CursorRewriter", "ruleCount", "I", false)
  | 3 => ("CursorRewriter", "text", "LCursorRewriter$Text;", true)
  | 4 => ("CursorRewriter", "match", "LCursorRewriter$Match;", true)
  | 5 => ("CursorRewriter", "appliedCount", "I", false)
  | 6 => ("CursorRewriter", "latestRule", "I", false)
  | _ => ("CursorRewriter", "isStuck", "Z", false)
def tyX4 : Nat → FieldType := fun k => match k with
  | 0 => (.object "CursorRewriter$Statement")
  | 1 => (.array (.object "CursorRewriter$Rule"))
  | 2 => .int
  | 3 => (.object "CursorRewriter$Text")
  | 4 => (.object "CursorRewriter$Match")
  | 5 => .int
  | 6 => .int
  | _ => .boolean
theorem nmX4 : ∀ a, a < 8 → ∀ b, b < 8 → a ≠ b → (TX4 a).2.1 ≠ (TX4 b).2.1 := by decide +kernel
theorem tyX4_ok : ∀ k, k < 8 → parseFieldDescriptor (TX4 k).2.2.1 = some (tyX4 k) := by decide +kernel
theorem inX4 : ∀ w ∈ u_ws RX4 TX4 8, w ∈ kv_tb := fun w h => List.mem_filter.mpr ⟨List.mem_append_right _ ((by decide +kernel : ∀ w ∈ u_ws RX4 TX4 8, w ∈ tables_1) w h), (by decide +kernel : ∀ w ∈ u_ws RX4 TX4 8, goodWord w = true) w h⟩
def TX5 : u_T := fun k => match k with
  | 0 => ("CursorRewriterModel", "typed", "I", false)
  | 1 => ("CursorRewriterModel", "sign", "[I", false)
  | 2 => ("CursorRewriterModel", "meaning", "[I", false)
  | 3 => ("CursorRewriterModel", "elements", "I", false)
  | 4 => ("CursorRewriterModel", "set", "[I", false)
  | 5 => ("CursorRewriterModel", "least", "[I", false)
  | 6 => ("CursorRewriterModel", "most", "[I", false)
  | 7 => ("CursorRewriterModel", "segment", "[I", false)
  | 8 => ("CursorRewriterModel", "segments", "I", false)
  | 9 => ("CursorRewriterModel", "unknown", "Z", false)
  | 10 => ("CursorRewriterModel", "next", "I", false)
  | 11 => ("CursorRewriterModel", "rules", "I", false)
  | 12 => ("CursorRewriterModel", "keyAt", "[I", false)
  | 13 => ("CursorRewriterModel", "afterAt", "[I", false)
  | 14 => ("CursorRewriterModel", "ends", "[I", false)
  | 15 => ("CursorRewriterModel", "sets", "[I", false)
  | 16 => ("CursorRewriterModel", "leasts", "[I", false)
  | 17 => ("CursorRewriterModel", "mosts", "[I", false)
  | 18 => ("CursorRewriterModel", "segs", "[I", false)
  | 19 => ("CursorRewriterModel", "sizes", "[I", false)
  | 20 => ("CursorRewriterModel", "stops", "[I", false)
  | 21 => ("CursorRewriterModel", "gives", "[I", false)
  | 22 => ("CursorRewriterModel", "length", "I", false)
  | 23 => ("CursorRewriterModel", "text", "[I", false)
  | 24 => ("CursorRewriterModel", "fresh", "[I", false)
  | 25 => ("CursorRewriterModel", "cursor", "I", false)
  | 26 => ("CursorRewriterModel", "applied", "I", false)
  | 27 => ("CursorRewriterModel", "latest", "I", false)
  | 28 => ("CursorRewriterModel", "stuck", "Z", false)
  | 29 => ("CursorRewriterModel", "keyEnd", "I", false)
  | 30 => ("CursorRewriterModel", "from", "[I", false)
  | _ => ("CursorRewriterModel", "to", "[I", false)
def tyX5 : Nat → FieldType := fun k => match k with
  | 0 => .int
  | 1 => (.array .int)
  | 2 => (.array .int)
  | 3 => .int
  | 4 => (.array .int)
  | 5 => (.array .int)
  | 6 => (.array .int)
  | 7 => (.array .int)
  | 8 => .int
  | 9 => .boolean
  | 10 => .int
  | 11 => .int
  | 12 => (.array .int)
  | 13 => (.array .int)
  | 14 => (.array .int)
  | 15 => (.array .int)
  | 16 => (.array .int)
  | 17 => (.array .int)
  | 18 => (.array .int)
  | 19 => (.array .int)
  | 20 => (.array .int)
  | 21 => (.array .int)
  | 22 => .int
  | 23 => (.array .int)
  | 24 => (.array .int)
  | 25 => .int
  | 26 => .int
  | 27 => .int
  | 28 => .boolean
  | 29 => .int
  | 30 => (.array .int)
  | _ => (.array .int)
theorem nmX5 : ∀ a, a < 32 → ∀ b, b < 32 → a ≠ b → (TX5 a).2.1 ≠ (TX5 b).2.1 := by decide +kernel
theorem tyX5_ok : ∀ k, k < 32 → parseFieldDescriptor (TX5 k).2.2.1 = some (tyX5 k) := by decide +kernel
theorem inX5 : ∀ w ∈ u_ws RX5 TX5 32, w ∈ kv_tb := fun w h => List.mem_filter.mpr ⟨List.mem_append_right _ ((by decide +kernel : ∀ w ∈ u_ws RX5 TX5 32, w ∈ tables_1) w h), (by decide +kernel : ∀ w ∈ u_ws RX5 TX5 32, goodWord w = true) w h⟩
abbrev vwCl : List vw_C := [(RX0, TX0, 1), (RX1, TX1, 14), (RX2, TX2, 6), (RX3, TX3, 4), (RX4, TX4, 8), (RX5, TX5, 32)]
def kv_tl : List FieldType := [.int, .char, .object "CursorRewriter$Rule"]
theorem kv_goodW {w : Cond} (h : w ∈ kv_tb) : goodWord w = true := (List.mem_filter.mp h).2
abbrev cX2_clearMeanings : ByteArray := prog_4_method_3_code
def yX2_clearMeanings : MethodName := ⟨RX2, "clearMeanings", "()V"⟩
abbrev cX2_init : ByteArray := prog_4_method_1_code
def yX2_init : MethodName := ⟨RX2, "<init>", "()V"⟩
abbrev cX1_init : ByteArray := prog_3_method_1_code
def yX1_init : MethodName := ⟨RX1, "<init>", "()V"⟩
abbrev cX3_init : ByteArray := prog_5_method_1_code
def yX3_init : MethodName := ⟨RX3, "<init>", "()V"⟩
abbrev cX0_init : ByteArray := prog_2_method_1_code
def yX0_init : MethodName := ⟨RX0, "<init>", "()V"⟩
abbrev cX4_init : ByteArray := prog_1_method_1_code
def yX4_init : MethodName := ⟨RX4, "<init>", "()V"⟩
abbrev cX5_init : ByteArray := prog_7_method_1_code
def yX5_init : MethodName := ⟨RX5, "<init>", "()V"⟩
abbrev cX4_isCapital : ByteArray := prog_1_method_23_code
def yX4_isCapital : MethodName := ⟨RX4, "isCapital", "(C)Z"⟩
abbrev cX2_looksLikeDefinition : ByteArray := prog_4_method_5_code
def yX2_looksLikeDefinition : MethodName := ⟨RX2, "looksLikeDefinition", "()Z"⟩
abbrev cX2_next : ByteArray := prog_4_method_16_code
def yX2_next : MethodName := ⟨RX2, "next", "()C"⟩
abbrev cX4_isSmall : ByteArray := prog_1_method_22_code
def yX4_isSmall : MethodName := ⟨RX4, "isSmall", "(C)Z"⟩
abbrev cX2_lettersFromTo : ByteArray := prog_4_method_19_code
def yX2_lettersFromTo : MethodName := ⟨RX2, "lettersFromTo", "(CC)I"⟩
abbrev cX2_skip : ByteArray := prog_4_method_17_code
def yX2_skip : MethodName := ⟨RX2, "skip", "(C)Z"⟩
abbrev cX2_readBrackets : ByteArray := prog_4_method_14_code
def yX2_readBrackets : MethodName := ⟨RX2, "readBrackets", "()Z"⟩
abbrev cX2_readElement : ByteArray := prog_4_method_13_code
def yX2_readElement : MethodName := ⟨RX2, "readElement", "()Z"⟩
abbrev cX2_readDefinition : ByteArray := prog_4_method_6_code
def yX2_readDefinition : MethodName := ⟨RX2, "readDefinition", "()Z"⟩
abbrev cX2_define : ByteArray := prog_4_method_7_code
def yX2_define : MethodName := ⟨RX2, "define", "()V"⟩
abbrev cX4_endDefinition : ByteArray := prog_1_method_16_code
def yX4_endDefinition : MethodName := ⟨RX4, "endDefinition", "()I"⟩
abbrev cX1_clear : ByteArray := prog_3_method_2_code
def yX1_clear : MethodName := ⟨RX1, "clear", "()V"⟩
abbrev cX2_hasOpeningBrace : ByteArray := prog_4_method_9_code
def yX2_hasOpeningBrace : MethodName := ⟨RX2, "hasOpeningBrace", "()Z"⟩
abbrev cX2_beginsElement : ByteArray := prog_4_method_18_code
def yX2_beginsElement : MethodName := ⟨RX2, "beginsElement", "(C)Z"⟩
abbrev cX2_readQuantifier : ByteArray := prog_4_method_15_code
def yX2_readQuantifier : MethodName := ⟨RX2, "readQuantifier", "()C"⟩
abbrev cX1_addElement : ByteArray := prog_3_method_3_code
def yX1_addElement : MethodName := ⟨RX1, "addElement", "(IC)V"⟩
abbrev cX2_readContext : ByteArray := prog_4_method_10_code
def yX2_readContext : MethodName := ⟨RX2, "readContext", "(LCursorRewriter$Rule;)Z"⟩
abbrev cX1_addSegment : ByteArray := prog_3_method_4_code
def yX1_addSegment : MethodName := ⟨RX1, "addSegment", "(I)V"⟩
abbrev cX2_readKey : ByteArray := prog_4_method_11_code
def yX2_readKey : MethodName := ⟨RX2, "readKey", "(LCursorRewriter$Rule;)Z"⟩
abbrev cX1_addPiece : ByteArray := prog_3_method_5_code
def yX1_addPiece : MethodName := ⟨RX1, "addPiece", "(C)V"⟩
abbrev cX2_readReplacement : ByteArray := prog_4_method_12_code
def yX2_readReplacement : MethodName := ⟨RX2, "readReplacement", "(LCursorRewriter$Rule;)Z"⟩
abbrev cX2_readRule : ByteArray := prog_4_method_8_code
def yX2_readRule : MethodName := ⟨RX2, "readRule", "(LCursorRewriter$Rule;)Z"⟩
abbrev cX1_isTooLarge : ByteArray := prog_3_method_6_code
def yX1_isTooLarge : MethodName := ⟨RX1, "isTooLarge", "()Z"⟩
abbrev cX1_masks : ByteArray := prog_3_method_7_code
def yX1_masks : MethodName := ⟨RX1, "masks", "(LCursorRewriter$Rule;)Z"⟩
abbrev cX4_isMasked : ByteArray := prog_1_method_18_code
def yX4_isMasked : MethodName := ⟨RX4, "isMasked", "(LCursorRewriter$Rule;)Z"⟩
abbrev cX4_endRule : ByteArray := prog_1_method_17_code
def yX4_endRule : MethodName := ⟨RX4, "endRule", "()I"⟩
abbrev cX2_clear : ByteArray := prog_4_method_2_code
def yX2_clear : MethodName := ⟨RX2, "clear", "()V"⟩
abbrev cX2_type : ByteArray := prog_4_method_4_code
def yX2_type : MethodName := ⟨RX2, "type", "(C)Z"⟩
abbrev cX4_code : ByteArray := prog_1_method_2_code
def yX4_code : MethodName := ⟨RX4, "code", "(C)I"⟩
abbrev cX5_capital : ByteArray := prog_7_method_3_code
def yX5_capital : MethodName := ⟨RX5, "capital", "(I)Z"⟩
abbrev cX5_at : ByteArray := prog_7_method_6_code
def yX5_at : MethodName := ⟨RX5, "at", "(II)I"⟩
abbrev cX5_small : ByteArray := prog_7_method_2_code
def yX5_small : MethodName := ⟨RX5, "small", "(I)Z"⟩
abbrev cX5_brackets : ByteArray := prog_7_method_7_code
def yX5_brackets : MethodName := ⟨RX5, "brackets", "(II)I"⟩
abbrev cX5_element : ByteArray := prog_7_method_8_code
def yX5_element : MethodName := ⟨RX5, "element", "(II)I"⟩
abbrev cX5_define : ByteArray := prog_7_method_11_code
def yX5_define : MethodName := ⟨RX5, "define", "()I"⟩
abbrev cX5_place : ByteArray := prog_7_method_5_code
def yX5_place : MethodName := ⟨RX5, "place", "(I)I"⟩
abbrev cX5_count : ByteArray := prog_7_method_4_code
def yX5_count : MethodName := ⟨RX5, "count", "(III)I"⟩
abbrev cX5_replacement : ByteArray := prog_7_method_12_code
def yX5_replacement : MethodName := ⟨RX5, "replacement", "(I)Z"⟩
abbrev cX5_add : ByteArray := prog_7_method_9_code
def yX5_add : MethodName := ⟨RX5, "add", "(III)Z"⟩
abbrev cX5_row : ByteArray := prog_7_method_10_code
def yX5_row : MethodName := ⟨RX5, "row", "(IIZ)Z"⟩
abbrev cX5_plain : ByteArray := prog_7_method_15_code
def yX5_plain : MethodName := ⟨RX5, "plain", "(I)Z"⟩
abbrev cX5_masks : ByteArray := prog_7_method_16_code
def yX5_masks : MethodName := ⟨RX5, "masks", "(II)Z"⟩
abbrev cX5_enter : ByteArray := prog_7_method_14_code
def yX5_enter : MethodName := ⟨RX5, "enter", "(III)I"⟩
abbrev cX5_read : ByteArray := prog_7_method_13_code
def yX5_read : MethodName := ⟨RX5, "read", "()I"⟩
abbrev cX5_code : ByteArray := prog_7_method_17_code
def yX5_code : MethodName := ⟨RX5, "code", "(C)I"⟩
abbrev cX4_rules : ByteArray := prog_1_method_3_code
def yX4_rules : MethodName := ⟨RX4, "rules", "()I"⟩
abbrev cX5_rules : ByteArray := prog_7_method_18_code
def yX5_rules : MethodName := ⟨RX5, "rules", "()I"⟩
abbrev cX3_clear : ByteArray := prog_5_method_2_code
def yX3_clear : MethodName := ⟨RX3, "clear", "()V"⟩
abbrev cX4_restart : ByteArray := prog_1_method_5_code
def yX4_restart : MethodName := ⟨RX4, "restart", "()V"⟩
abbrev cX4_forget : ByteArray := prog_1_method_4_code
def yX4_forget : MethodName := ⟨RX4, "forget", "()V"⟩
abbrev cX5_restart : ByteArray := prog_7_method_20_code
def yX5_restart : MethodName := ⟨RX5, "restart", "()V"⟩
abbrev cX5_forget : ByteArray := prog_7_method_19_code
def yX5_forget : MethodName := ⟨RX5, "forget", "()V"⟩
abbrev cX3_append : ByteArray := prog_5_method_3_code
def yX3_append : MethodName := ⟨RX3, "append", "(C)Z"⟩
abbrev cX4_write : ByteArray := prog_1_method_6_code
def yX4_write : MethodName := ⟨RX4, "write", "(C)Z"⟩
abbrev cX5_write : ByteArray := prog_7_method_21_code
def yX5_write : MethodName := ⟨RX5, "write", "(C)Z"⟩
abbrev cX3_isIn : ByteArray := prog_5_method_4_code
def yX3_isIn : MethodName := ⟨RX3, "isIn", "(II)Z"⟩
abbrev cX0_takeBefore : ByteArray := prog_2_method_3_code
def yX0_takeBefore : MethodName := ⟨RX0, "takeBefore", "(LCursorRewriter$Rule;LCursorRewriter$Text;)Z"⟩
abbrev cX0_takeOnward : ByteArray := prog_2_method_4_code
def yX0_takeOnward : MethodName := ⟨RX0, "takeOnward", "(LCursorRewriter$Rule;LCursorRewriter$Text;IIZ)I"⟩
abbrev cX0_run : ByteArray := prog_2_method_2_code
def yX0_run : MethodName := ⟨RX0, "run", "(LCursorRewriter$Rule;LCursorRewriter$Text;Z)I"⟩
abbrev cX0_segmentWidth : ByteArray := prog_2_method_6_code
def yX0_segmentWidth : MethodName := ⟨RX0, "segmentWidth", "(LCursorRewriter$Rule;C)I"⟩
abbrev cX3_widthOf : ByteArray := prog_5_method_8_code
def yX3_widthOf : MethodName := ⟨RX3, "widthOf", "(LCursorRewriter$Rule;LCursorRewriter$Match;I)I"⟩
abbrev cX3_sizeAfter : ByteArray := prog_5_method_5_code
def yX3_sizeAfter : MethodName := ⟨RX3, "sizeAfter", "(LCursorRewriter$Rule;LCursorRewriter$Match;)I"⟩
abbrev cX0_segmentBegin : ByteArray := prog_2_method_5_code
def yX0_segmentBegin : MethodName := ⟨RX0, "segmentBegin", "(LCursorRewriter$Rule;C)I"⟩
abbrev cX3_putPiece : ByteArray := prog_5_method_7_code
def yX3_putPiece : MethodName := ⟨RX3, "putPiece", "(LCursorRewriter$Rule;LCursorRewriter$Match;II)I"⟩
abbrev cX3_replace : ByteArray := prog_5_method_6_code
def yX3_replace : MethodName := ⟨RX3, "replace", "(LCursorRewriter$Rule;LCursorRewriter$Match;)V"⟩
abbrev cX4_apply : ByteArray := prog_1_method_21_code
def yX4_apply : MethodName := ⟨RX4, "apply", "(I)Z"⟩
abbrev cX4_doAtCursor : ByteArray := prog_1_method_20_code
def yX4_doAtCursor : MethodName := ⟨RX4, "doAtCursor", "(Z)Z"⟩
abbrev cX4_rewrite : ByteArray := prog_1_method_19_code
def yX4_rewrite : MethodName := ⟨RX4, "rewrite", "(Z)I"⟩
abbrev cX4_settle : ByteArray := prog_1_method_7_code
def yX4_settle : MethodName := ⟨RX4, "settle", "()I"⟩
abbrev cX5_standsFor : ByteArray := prog_7_method_22_code
def yX5_standsFor : MethodName := ⟨RX5, "standsFor", "(II)Z"⟩
abbrev cX5_rowOf : ByteArray := prog_7_method_23_code
def yX5_rowOf : MethodName := ⟨RX5, "rowOf", "(IIZ)I"⟩
abbrev cX5_before : ByteArray := prog_7_method_24_code
def yX5_before : MethodName := ⟨RX5, "before", "(I)Z"⟩
abbrev cX5_match : ByteArray := prog_7_method_25_code
def yX5_match : MethodName := ⟨RX5, "match", "(IZ)I"⟩
abbrev cX5_given : ByteArray := prog_7_method_27_code
def yX5_given : MethodName := ⟨RX5, "given", "(II)I"⟩
abbrev cX5_apply : ByteArray := prog_7_method_28_code
def yX5_apply : MethodName := ⟨RX5, "apply", "(I)Z"⟩
abbrev cX5_work : ByteArray := prog_7_method_29_code
def yX5_work : MethodName := ⟨RX5, "work", "(Z)I"⟩
abbrev cX5_settle : ByteArray := prog_7_method_30_code
def yX5_settle : MethodName := ⟨RX5, "settle", "()I"⟩
abbrev cX4_finish : ByteArray := prog_1_method_8_code
def yX4_finish : MethodName := ⟨RX4, "finish", "()I"⟩
abbrev cX5_finish : ByteArray := prog_7_method_31_code
def yX5_finish : MethodName := ⟨RX5, "finish", "()I"⟩
abbrev cX4_length : ByteArray := prog_1_method_9_code
def yX4_length : MethodName := ⟨RX4, "length", "()I"⟩
abbrev cX5_length : ByteArray := prog_7_method_32_code
def yX5_length : MethodName := ⟨RX5, "length", "()I"⟩
abbrev cX4_letter : ByteArray := prog_1_method_10_code
def yX4_letter : MethodName := ⟨RX4, "letter", "(I)I"⟩
abbrev cX5_letter : ByteArray := prog_7_method_33_code
def yX5_letter : MethodName := ⟨RX5, "letter", "(I)I"⟩
abbrev cX4_cursor : ByteArray := prog_1_method_11_code
def yX4_cursor : MethodName := ⟨RX4, "cursor", "()I"⟩
abbrev cX5_cursor : ByteArray := prog_7_method_34_code
def yX5_cursor : MethodName := ⟨RX5, "cursor", "()I"⟩
abbrev cX4_applied : ByteArray := prog_1_method_12_code
def yX4_applied : MethodName := ⟨RX4, "applied", "()I"⟩
abbrev cX5_applied : ByteArray := prog_7_method_35_code
def yX5_applied : MethodName := ⟨RX5, "applied", "()I"⟩
abbrev cX4_latest : ByteArray := prog_1_method_13_code
def yX4_latest : MethodName := ⟨RX4, "latest", "()I"⟩
abbrev cX5_latest : ByteArray := prog_7_method_36_code
def yX5_latest : MethodName := ⟨RX5, "latest", "()I"⟩
abbrev cX4_stuck : ByteArray := prog_1_method_14_code
def yX4_stuck : MethodName := ⟨RX4, "stuck", "()Z"⟩
abbrev cX5_stuck : ByteArray := prog_7_method_37_code
def yX5_stuck : MethodName := ⟨RX5, "stuck", "()Z"⟩
abbrev cX4_probe : ByteArray := prog_1_method_15_code
def yX4_probe : MethodName := ⟨RX4, "probe", "(IZ)I"⟩
abbrev cX5_probe : ByteArray := prog_7_method_26_code
def yX5_probe : MethodName := ⟨RX5, "probe", "(IZ)I"⟩
abbrev cL_law : ByteArray := code
def yL_law : MethodName := ⟨RL, "law", "([I)Z"⟩
theorem mw_1 : (Cond.initialized "CursorRewriter") ∈ kv_tb := List.mem_filter.mpr ⟨List.mem_append_right _ (List.mem_of_getElem? (i := 1) (by decide +kernel)), rfl⟩
theorem mw_2 : (Cond.initialized "CursorRewriter$Statement") ∈ kv_tb := List.mem_filter.mpr ⟨List.mem_append_right _ (List.mem_of_getElem? (i := 2) (by decide +kernel)), rfl⟩
theorem mw_3 : (Cond.initialized "CursorRewriter$Rule") ∈ kv_tb := List.mem_filter.mpr ⟨List.mem_append_right _ (List.mem_of_getElem? (i := 3) (by decide +kernel)), rfl⟩
theorem mw_4 : (Cond.initialized "CursorRewriter$Text") ∈ kv_tb := List.mem_filter.mpr ⟨List.mem_append_right _ (List.mem_of_getElem? (i := 4) (by decide +kernel)), rfl⟩
theorem mw_5 : (Cond.initialized "CursorRewriter$Match") ∈ kv_tb := List.mem_filter.mpr ⟨List.mem_append_right _ (List.mem_of_getElem? (i := 5) (by decide +kernel)), rfl⟩
theorem mw_6 : (Cond.initialized "CursorRewriterModel") ∈ kv_tb := List.mem_filter.mpr ⟨List.mem_append_right _ (List.mem_of_getElem? (i := 6) (by decide +kernel)), rfl⟩
theorem mw_7 : (Cond.initialized "java/lang/Math") ∈ kv_tb := List.mem_filter.mpr ⟨List.mem_append_right _ (List.mem_of_getElem? (i := 7) (by decide +kernel)), rfl⟩
theorem mw_8 : (Cond.initialized "java/lang/System") ∈ kv_tb := List.mem_filter.mpr ⟨List.mem_append_right _ (List.mem_of_getElem? (i := 8) (by decide +kernel)), rfl⟩
theorem mw_9 : (Cond.classLink "CursorRewriterLaw" (7 : Nat) "CursorRewriter") ∈ kv_tb := List.mem_filter.mpr ⟨List.mem_append_right _ (List.mem_of_getElem? (i := 9) (by decide +kernel)), rfl⟩
theorem mw_10 : (Cond.instantiable "CursorRewriter" (8 : Nat)) ∈ kv_tb := List.mem_filter.mpr ⟨List.mem_append_right _ (List.mem_of_getElem? (i := 10) (by decide +kernel)), rfl⟩
theorem mw_11 : (Cond.methodLink "CursorRewriterLaw" (9 : Nat) ({ cls := "CursorRewriter", name := "<init>", desc := "()V" } : Jvm.MethodName)) ∈ kv_tb := List.mem_filter.mpr ⟨List.mem_append_right _ (List.mem_of_getElem? (i := 11) (by decide +kernel)), rfl⟩
theorem mw_12 : (Cond.instanceMethod ({ cls := "CursorRewriter", name := "<init>", desc := "()V" } : Jvm.MethodName)) ∈ kv_tb := List.mem_filter.mpr ⟨List.mem_append_right _ (List.mem_of_getElem? (i := 12) (by decide +kernel)), rfl⟩
theorem mw_13 : (Cond.code ({ cls := "CursorRewriter", name := "<init>", desc := "()V" } : Jvm.MethodName) prog_1_method_1_code (2 : Nat) (Option.none : Option Jvm.ClassFile.FieldType)) ∈ kv_tb := List.mem_filter.mpr ⟨List.mem_append_right _ (List.mem_of_getElem? (i := 13) (by decide +kernel)), rfl⟩
theorem mw_14 : (Cond.methodLink "CursorRewriter" (3 : Nat) ({ cls := "java/lang/Object", name := "<init>", desc := "()V" } : Jvm.MethodName)) ∈ kv_tb := List.mem_filter.mpr ⟨List.mem_append_right _ (List.mem_of_getElem? (i := 14) (by decide +kernel)), rfl⟩
theorem mw_15 : (Cond.instanceMethod ({ cls := "java/lang/Object", name := "<init>", desc := "()V" } : Jvm.MethodName)) ∈ kv_tb := List.mem_filter.mpr ⟨List.mem_append_right _ (List.mem_of_getElem? (i := 15) (by decide +kernel)), rfl⟩
theorem mw_16 : (Cond.code ({ cls := "java/lang/Object", name := "<init>", desc := "()V" } : Jvm.MethodName) object_method_1_code (1 : Nat) (Option.none : Option Jvm.ClassFile.FieldType)) ∈ kv_tb := List.mem_filter.mpr ⟨List.mem_append_right _ (List.mem_of_getElem? (i := 16) (by decide +kernel)), rfl⟩
theorem mw_17 : (Cond.classLink "CursorRewriter" (9 : Nat) "CursorRewriter$Statement") ∈ kv_tb := List.mem_filter.mpr ⟨List.mem_append_right _ (List.mem_of_getElem? (i := 17) (by decide +kernel)), rfl⟩
theorem mw_18 : (Cond.instantiable "CursorRewriter$Statement" (6 : Nat)) ∈ kv_tb := List.mem_filter.mpr ⟨List.mem_append_right _ (List.mem_of_getElem? (i := 18) (by decide +kernel)), rfl⟩
theorem mw_19 : (Cond.methodLink "CursorRewriter" (11 : Nat) ({ cls := "CursorRewriter$Statement", name := "<init>", desc := "()V" } : Jvm.MethodName)) ∈ kv_tb := List.mem_filter.mpr ⟨List.mem_append_right _ (List.mem_of_getElem? (i := 19) (by decide +kernel)), rfl⟩
theorem mw_20 : (Cond.instanceMethod ({ cls := "CursorRewriter$Statement", name := "<init>", desc := "()V" } : Jvm.MethodName)) ∈ kv_tb := List.mem_filter.mpr ⟨List.mem_append_right _ (List.mem_of_getElem? (i := 20) (by decide +kernel)), rfl⟩
theorem mw_21 : (Cond.code ({ cls := "CursorRewriter$Statement", name := "<init>", desc := "()V" } : Jvm.MethodName) prog_4_method_1_code (1 : Nat) (Option.none : Option Jvm.ClassFile.FieldType)) ∈ kv_tb := List.mem_filter.mpr ⟨List.mem_append_right _ (List.mem_of_getElem? (i := 21) (by decide +kernel)), rfl⟩
theorem mw_22 : (Cond.methodLink "CursorRewriter$Statement" (3 : Nat) ({ cls := "java/lang/Object", name := "<init>", desc := "()V" } : Jvm.MethodName)) ∈ kv_tb := List.mem_filter.mpr ⟨List.mem_append_right _ (List.mem_of_getElem? (i := 22) (by decide +kernel)), rfl⟩
theorem mw_23 : (Cond.methodLink "CursorRewriter$Statement" (33 : Nat) ({ cls := "CursorRewriter$Statement", name := "clearMeanings", desc := "()V" } : Jvm.MethodName)) ∈ kv_tb := List.mem_filter.mpr ⟨List.mem_append_right _ (List.mem_of_getElem? (i := 23) (by decide +kernel)), rfl⟩
theorem mw_24 : (Cond.instanceMethod ({ cls := "CursorRewriter$Statement", name := "clearMeanings", desc := "()V" } : Jvm.MethodName)) ∈ kv_tb := List.mem_filter.mpr ⟨List.mem_append_right _ (List.mem_of_getElem? (i := 24) (by decide +kernel)), rfl⟩
theorem mw_25 : (Cond.selects "CursorRewriter$Statement" ({ cls := "CursorRewriter$Statement", name := "clearMeanings", desc := "()V" } : Jvm.MethodName) ({ cls := "CursorRewriter$Statement", name := "clearMeanings", desc := "()V" } : Jvm.MethodName)) ∈ kv_tb := List.mem_filter.mpr ⟨List.mem_append_right _ (List.mem_of_getElem? (i := 25) (by decide +kernel)), rfl⟩
theorem mw_26 : (Cond.code ({ cls := "CursorRewriter$Statement", name := "clearMeanings", desc := "()V" } : Jvm.MethodName) prog_4_method_3_code (2 : Nat) (Option.none : Option Jvm.ClassFile.FieldType)) ∈ kv_tb := List.mem_filter.mpr ⟨List.mem_append_right _ (List.mem_of_getElem? (i := 26) (by decide +kernel)), rfl⟩
theorem mw_27 : (Cond.fieldLink "CursorRewriter$Statement" (9 : Nat) "CursorRewriter$Statement" "typed" "[C") ∈ kv_tb := List.mem_filter.mpr ⟨List.mem_append_right _ (List.mem_of_getElem? (i := 27) (by decide +kernel)), rfl⟩
theorem mw_28 : (Cond.fieldLink "CursorRewriter$Statement" (15 : Nat) "CursorRewriter$Statement" "count" "I") ∈ kv_tb := List.mem_filter.mpr ⟨List.mem_append_right _ (List.mem_of_getElem? (i := 28) (by decide +kernel)), rfl⟩
theorem mw_29 : (Cond.fieldLink "CursorRewriter$Statement" (19 : Nat) "CursorRewriter$Statement" "at" "I") ∈ kv_tb := List.mem_filter.mpr ⟨List.mem_append_right _ (List.mem_of_getElem? (i := 29) (by decide +kernel)), rfl⟩
theorem mw_30 : (Cond.fieldLink "CursorRewriter$Statement" (22 : Nat) "CursorRewriter$Statement" "meanings" "[I") ∈ kv_tb := List.mem_filter.mpr ⟨List.mem_append_right _ (List.mem_of_getElem? (i := 30) (by decide +kernel)), rfl⟩
theorem mw_31 : (Cond.fieldLink "CursorRewriter$Statement" (26 : Nat) "CursorRewriter$Statement" "set" "I") ∈ kv_tb := List.mem_filter.mpr ⟨List.mem_append_right _ (List.mem_of_getElem? (i := 31) (by decide +kernel)), rfl⟩
theorem mw_32 : (Cond.fieldLink "CursorRewriter$Statement" (29 : Nat) "CursorRewriter$Statement" "sawUndefined" "Z") ∈ kv_tb := List.mem_filter.mpr ⟨List.mem_append_right _ (List.mem_of_getElem? (i := 32) (by decide +kernel)), rfl⟩
theorem mw_33 : (Cond.fieldLinkNest "CursorRewriter" (103 : Nat) "CursorRewriter$Statement" "sawUndefined" "Z" "CursorRewriter") ∈ kv_nl := List.mem_filter.mpr ⟨List.mem_of_getElem? (i := 33) (by decide +kernel), rfl⟩
theorem mw_47 : (Cond.arrayClass Jvm.ClassFile.FieldType.char) ∈ kv_tb := List.mem_filter.mpr ⟨List.mem_append_right _ (List.mem_of_getElem? (i := 47) (by decide +kernel)), rfl⟩
theorem mw_48 : (Cond.arrayClass Jvm.ClassFile.FieldType.int) ∈ kv_tb := List.mem_filter.mpr ⟨List.mem_append_right _ (List.mem_of_getElem? (i := 48) (by decide +kernel)), rfl⟩
theorem mw_49 : (Cond.classLink "CursorRewriter" (16 : Nat) "CursorRewriter$Rule") ∈ kv_tb := List.mem_filter.mpr ⟨List.mem_append_right _ (List.mem_of_getElem? (i := 49) (by decide +kernel)), rfl⟩
theorem mw_50 : (Cond.arrayOver (Jvm.ClassFile.FieldType.object "CursorRewriter$Rule")) ∈ kv_nl := List.mem_filter.mpr ⟨List.mem_of_getElem? (i := 50) (by decide +kernel), rfl⟩
theorem mw_51 : (Cond.instantiable "CursorRewriter$Rule" (14 : Nat)) ∈ kv_tb := List.mem_filter.mpr ⟨List.mem_append_right _ (List.mem_of_getElem? (i := 51) (by decide +kernel)), rfl⟩
theorem mw_52 : (Cond.methodLinkNest "CursorRewriter" (22 : Nat) ({ cls := "CursorRewriter$Rule", name := "<init>", desc := "()V" } : Jvm.MethodName) "CursorRewriter") ∈ kv_nl := List.mem_filter.mpr ⟨List.mem_of_getElem? (i := 52) (by decide +kernel), rfl⟩
theorem mw_53 : (Cond.instanceMethod ({ cls := "CursorRewriter$Rule", name := "<init>", desc := "()V" } : Jvm.MethodName)) ∈ kv_tb := List.mem_filter.mpr ⟨List.mem_append_right _ (List.mem_of_getElem? (i := 53) (by decide +kernel)), rfl⟩
theorem mw_54 : (Cond.code ({ cls := "CursorRewriter$Rule", name := "<init>", desc := "()V" } : Jvm.MethodName) prog_3_method_1_code (1 : Nat) (Option.none : Option Jvm.ClassFile.FieldType)) ∈ kv_tb := List.mem_filter.mpr ⟨List.mem_append_right _ (List.mem_of_getElem? (i := 54) (by decide +kernel)), rfl⟩
theorem mw_55 : (Cond.methodLink "CursorRewriter$Rule" (3 : Nat) ({ cls := "java/lang/Object", name := "<init>", desc := "()V" } : Jvm.MethodName)) ∈ kv_tb := List.mem_filter.mpr ⟨List.mem_append_right _ (List.mem_of_getElem? (i := 55) (by decide +kernel)), rfl⟩
theorem mw_56 : (Cond.fieldLink "CursorRewriter$Rule" (9 : Nat) "CursorRewriter$Rule" "sets" "[I") ∈ kv_tb := List.mem_filter.mpr ⟨List.mem_append_right _ (List.mem_of_getElem? (i := 56) (by decide +kernel)), rfl⟩
theorem mw_57 : (Cond.fieldLinkNest "CursorRewriter$Match" (43 : Nat) "CursorRewriter$Rule" "sets" "[I" "CursorRewriter") ∈ kv_nl := List.mem_filter.mpr ⟨List.mem_of_getElem? (i := 57) (by decide +kernel), rfl⟩
theorem mw_58 : (Cond.fieldLink "CursorRewriter$Rule" (15 : Nat) "CursorRewriter$Rule" "least" "[I") ∈ kv_tb := List.mem_filter.mpr ⟨List.mem_append_right _ (List.mem_of_getElem? (i := 58) (by decide +kernel)), rfl⟩
theorem mw_59 : (Cond.fieldLinkNest "CursorRewriter$Match" (50 : Nat) "CursorRewriter$Rule" "least" "[I" "CursorRewriter") ∈ kv_nl := List.mem_filter.mpr ⟨List.mem_of_getElem? (i := 59) (by decide +kernel), rfl⟩
theorem mw_60 : (Cond.fieldLink "CursorRewriter$Rule" (18 : Nat) "CursorRewriter$Rule" "most" "[I") ∈ kv_tb := List.mem_filter.mpr ⟨List.mem_append_right _ (List.mem_of_getElem? (i := 60) (by decide +kernel)), rfl⟩
theorem mw_61 : (Cond.fieldLinkNest "CursorRewriter$Match" (40 : Nat) "CursorRewriter$Rule" "most" "[I" "CursorRewriter") ∈ kv_nl := List.mem_filter.mpr ⟨List.mem_of_getElem? (i := 61) (by decide +kernel), rfl⟩
theorem mw_62 : (Cond.fieldLink "CursorRewriter$Rule" (21 : Nat) "CursorRewriter$Rule" "elementCount" "I") ∈ kv_tb := List.mem_filter.mpr ⟨List.mem_append_right _ (List.mem_of_getElem? (i := 62) (by decide +kernel)), rfl⟩
theorem mw_63 : (Cond.fieldLinkNest "CursorRewriter$Match" (37 : Nat) "CursorRewriter$Rule" "elementCount" "I" "CursorRewriter") ∈ kv_nl := List.mem_filter.mpr ⟨List.mem_of_getElem? (i := 63) (by decide +kernel), rfl⟩
theorem mw_64 : (Cond.fieldLinkNest "CursorRewriter$Statement" (54 : Nat) "CursorRewriter$Rule" "elementCount" "I" "CursorRewriter") ∈ kv_nl := List.mem_filter.mpr ⟨List.mem_of_getElem? (i := 64) (by decide +kernel), rfl⟩
theorem mw_65 : (Cond.fieldLink "CursorRewriter$Rule" (25 : Nat) "CursorRewriter$Rule" "keyStart" "I") ∈ kv_tb := List.mem_filter.mpr ⟨List.mem_append_right _ (List.mem_of_getElem? (i := 65) (by decide +kernel)), rfl⟩
theorem mw_66 : (Cond.fieldLinkNest "CursorRewriter$Match" (19 : Nat) "CursorRewriter$Rule" "keyStart" "I" "CursorRewriter") ∈ kv_nl := List.mem_filter.mpr ⟨List.mem_of_getElem? (i := 66) (by decide +kernel), rfl⟩
theorem mw_67 : (Cond.fieldLinkNest "CursorRewriter$Statement" (59 : Nat) "CursorRewriter$Rule" "keyStart" "I" "CursorRewriter") ∈ kv_nl := List.mem_filter.mpr ⟨List.mem_of_getElem? (i := 67) (by decide +kernel), rfl⟩
theorem mw_68 : (Cond.fieldLink "CursorRewriter$Rule" (28 : Nat) "CursorRewriter$Rule" "keyEnd" "I") ∈ kv_tb := List.mem_filter.mpr ⟨List.mem_append_right _ (List.mem_of_getElem? (i := 68) (by decide +kernel)), rfl⟩
theorem mw_69 : (Cond.fieldLinkNest "CursorRewriter$Match" (30 : Nat) "CursorRewriter$Rule" "keyEnd" "I" "CursorRewriter") ∈ kv_nl := List.mem_filter.mpr ⟨List.mem_of_getElem? (i := 69) (by decide +kernel), rfl⟩
theorem mw_70 : (Cond.fieldLinkNest "CursorRewriter$Text" (31 : Nat) "CursorRewriter$Rule" "keyEnd" "I" "CursorRewriter") ∈ kv_nl := List.mem_filter.mpr ⟨List.mem_of_getElem? (i := 70) (by decide +kernel), rfl⟩
theorem mw_71 : (Cond.fieldLinkNest "CursorRewriter$Statement" (65 : Nat) "CursorRewriter$Rule" "keyEnd" "I" "CursorRewriter") ∈ kv_nl := List.mem_filter.mpr ⟨List.mem_of_getElem? (i := 71) (by decide +kernel), rfl⟩
theorem mw_72 : (Cond.fieldLink "CursorRewriter$Rule" (31 : Nat) "CursorRewriter$Rule" "hasQuantifier" "Z") ∈ kv_tb := List.mem_filter.mpr ⟨List.mem_append_right _ (List.mem_of_getElem? (i := 72) (by decide +kernel)), rfl⟩
theorem mw_73 : (Cond.fieldLink "CursorRewriter$Rule" (35 : Nat) "CursorRewriter$Rule" "segmentStarts" "[I") ∈ kv_tb := List.mem_filter.mpr ⟨List.mem_append_right _ (List.mem_of_getElem? (i := 73) (by decide +kernel)), rfl⟩
theorem mw_74 : (Cond.fieldLinkNest "CursorRewriter$Match" (56 : Nat) "CursorRewriter$Rule" "segmentStarts" "[I" "CursorRewriter") ∈ kv_nl := List.mem_filter.mpr ⟨List.mem_of_getElem? (i := 74) (by decide +kernel), rfl⟩
theorem mw_75 : (Cond.fieldLink "CursorRewriter$Rule" (38 : Nat) "CursorRewriter$Rule" "segmentEnds" "[I") ∈ kv_tb := List.mem_filter.mpr ⟨List.mem_append_right _ (List.mem_of_getElem? (i := 75) (by decide +kernel)), rfl⟩
theorem mw_76 : (Cond.fieldLinkNest "CursorRewriter$Match" (59 : Nat) "CursorRewriter$Rule" "segmentEnds" "[I" "CursorRewriter") ∈ kv_nl := List.mem_filter.mpr ⟨List.mem_of_getElem? (i := 76) (by decide +kernel), rfl⟩
theorem mw_77 : (Cond.fieldLink "CursorRewriter$Rule" (41 : Nat) "CursorRewriter$Rule" "segmentCount" "I") ∈ kv_tb := List.mem_filter.mpr ⟨List.mem_append_right _ (List.mem_of_getElem? (i := 77) (by decide +kernel)), rfl⟩
theorem mw_78 : (Cond.fieldLinkNest "CursorRewriter" (117 : Nat) "CursorRewriter$Rule" "segmentCount" "I" "CursorRewriter") ∈ kv_nl := List.mem_filter.mpr ⟨List.mem_of_getElem? (i := 78) (by decide +kernel), rfl⟩
theorem mw_79 : (Cond.fieldLink "CursorRewriter$Rule" (44 : Nat) "CursorRewriter$Rule" "pieces" "[C") ∈ kv_tb := List.mem_filter.mpr ⟨List.mem_append_right _ (List.mem_of_getElem? (i := 79) (by decide +kernel)), rfl⟩
theorem mw_80 : (Cond.fieldLinkNest "CursorRewriter$Text" (56 : Nat) "CursorRewriter$Rule" "pieces" "[C" "CursorRewriter") ∈ kv_nl := List.mem_filter.mpr ⟨List.mem_of_getElem? (i := 80) (by decide +kernel), rfl⟩
theorem mw_81 : (Cond.fieldLink "CursorRewriter$Rule" (48 : Nat) "CursorRewriter$Rule" "pieceCount" "I") ∈ kv_tb := List.mem_filter.mpr ⟨List.mem_append_right _ (List.mem_of_getElem? (i := 81) (by decide +kernel)), rfl⟩
theorem mw_82 : (Cond.fieldLinkNest "CursorRewriter$Text" (36 : Nat) "CursorRewriter$Rule" "pieceCount" "I" "CursorRewriter") ∈ kv_nl := List.mem_filter.mpr ⟨List.mem_of_getElem? (i := 82) (by decide +kernel), rfl⟩
theorem mw_83 : (Cond.fieldLinkNest "CursorRewriter$Statement" (89 : Nat) "CursorRewriter$Rule" "pieceCount" "I" "CursorRewriter") ∈ kv_nl := List.mem_filter.mpr ⟨List.mem_of_getElem? (i := 83) (by decide +kernel), rfl⟩
theorem mw_84 : (Cond.fieldLink "CursorRewriter$Rule" (51 : Nat) "CursorRewriter$Rule" "greatestDigit" "I") ∈ kv_tb := List.mem_filter.mpr ⟨List.mem_append_right _ (List.mem_of_getElem? (i := 84) (by decide +kernel)), rfl⟩
theorem mw_85 : (Cond.fieldLinkNest "CursorRewriter" (114 : Nat) "CursorRewriter$Rule" "greatestDigit" "I" "CursorRewriter") ∈ kv_nl := List.mem_filter.mpr ⟨List.mem_of_getElem? (i := 85) (by decide +kernel), rfl⟩
theorem mw_86 : (Cond.fieldLink "CursorRewriter$Rule" (54 : Nat) "CursorRewriter$Rule" "mark" "I") ∈ kv_tb := List.mem_filter.mpr ⟨List.mem_append_right _ (List.mem_of_getElem? (i := 86) (by decide +kernel)), rfl⟩
theorem mw_87 : (Cond.fieldLinkNest "CursorRewriter$Text" (53 : Nat) "CursorRewriter$Rule" "mark" "I" "CursorRewriter") ∈ kv_nl := List.mem_filter.mpr ⟨List.mem_of_getElem? (i := 87) (by decide +kernel), rfl⟩
theorem mw_88 : (Cond.fieldLinkNest "CursorRewriter$Statement" (92 : Nat) "CursorRewriter$Rule" "mark" "I" "CursorRewriter") ∈ kv_nl := List.mem_filter.mpr ⟨List.mem_of_getElem? (i := 88) (by decide +kernel), rfl⟩
theorem mw_118 : (Cond.classLink "CursorRewriter" (27 : Nat) "CursorRewriter$Text") ∈ kv_tb := List.mem_filter.mpr ⟨List.mem_append_right _ (List.mem_of_getElem? (i := 118) (by decide +kernel)), rfl⟩
theorem mw_119 : (Cond.instantiable "CursorRewriter$Text" (4 : Nat)) ∈ kv_tb := List.mem_filter.mpr ⟨List.mem_append_right _ (List.mem_of_getElem? (i := 119) (by decide +kernel)), rfl⟩
theorem mw_120 : (Cond.methodLinkNest "CursorRewriter" (29 : Nat) ({ cls := "CursorRewriter$Text", name := "<init>", desc := "()V" } : Jvm.MethodName) "CursorRewriter") ∈ kv_nl := List.mem_filter.mpr ⟨List.mem_of_getElem? (i := 120) (by decide +kernel), rfl⟩
theorem mw_121 : (Cond.instanceMethod ({ cls := "CursorRewriter$Text", name := "<init>", desc := "()V" } : Jvm.MethodName)) ∈ kv_tb := List.mem_filter.mpr ⟨List.mem_append_right _ (List.mem_of_getElem? (i := 121) (by decide +kernel)), rfl⟩
theorem mw_122 : (Cond.code ({ cls := "CursorRewriter$Text", name := "<init>", desc := "()V" } : Jvm.MethodName) prog_5_method_1_code (1 : Nat) (Option.none : Option Jvm.ClassFile.FieldType)) ∈ kv_tb := List.mem_filter.mpr ⟨List.mem_append_right _ (List.mem_of_getElem? (i := 122) (by decide +kernel)), rfl⟩
theorem mw_123 : (Cond.methodLink "CursorRewriter$Text" (3 : Nat) ({ cls := "java/lang/Object", name := "<init>", desc := "()V" } : Jvm.MethodName)) ∈ kv_tb := List.mem_filter.mpr ⟨List.mem_append_right _ (List.mem_of_getElem? (i := 123) (by decide +kernel)), rfl⟩
theorem mw_124 : (Cond.fieldLink "CursorRewriter$Text" (9 : Nat) "CursorRewriter$Text" "letters" "[C") ∈ kv_tb := List.mem_filter.mpr ⟨List.mem_append_right _ (List.mem_of_getElem? (i := 124) (by decide +kernel)), rfl⟩
theorem mw_125 : (Cond.fieldLinkNest "CursorRewriter" (89 : Nat) "CursorRewriter$Text" "letters" "[C" "CursorRewriter") ∈ kv_nl := List.mem_filter.mpr ⟨List.mem_of_getElem? (i := 125) (by decide +kernel), rfl⟩
theorem mw_126 : (Cond.fieldLink "CursorRewriter$Text" (15 : Nat) "CursorRewriter$Text" "spare" "[C") ∈ kv_tb := List.mem_filter.mpr ⟨List.mem_append_right _ (List.mem_of_getElem? (i := 126) (by decide +kernel)), rfl⟩
theorem mw_127 : (Cond.fieldLink "CursorRewriter$Text" (18 : Nat) "CursorRewriter$Text" "size" "I") ∈ kv_tb := List.mem_filter.mpr ⟨List.mem_append_right _ (List.mem_of_getElem? (i := 127) (by decide +kernel)), rfl⟩
theorem mw_128 : (Cond.fieldLinkNest "CursorRewriter$Match" (53 : Nat) "CursorRewriter$Text" "size" "I" "CursorRewriter") ∈ kv_nl := List.mem_filter.mpr ⟨List.mem_of_getElem? (i := 128) (by decide +kernel), rfl⟩
theorem mw_129 : (Cond.fieldLinkNest "CursorRewriter" (86 : Nat) "CursorRewriter$Text" "size" "I" "CursorRewriter") ∈ kv_nl := List.mem_filter.mpr ⟨List.mem_of_getElem? (i := 129) (by decide +kernel), rfl⟩
theorem mw_130 : (Cond.fieldLink "CursorRewriter$Text" (22 : Nat) "CursorRewriter$Text" "place" "I") ∈ kv_tb := List.mem_filter.mpr ⟨List.mem_append_right _ (List.mem_of_getElem? (i := 130) (by decide +kernel)), rfl⟩
theorem mw_131 : (Cond.fieldLinkNest "CursorRewriter$Match" (25 : Nat) "CursorRewriter$Text" "place" "I" "CursorRewriter") ∈ kv_nl := List.mem_filter.mpr ⟨List.mem_of_getElem? (i := 131) (by decide +kernel), rfl⟩
theorem mw_132 : (Cond.fieldLinkNest "CursorRewriter" (93 : Nat) "CursorRewriter$Text" "place" "I" "CursorRewriter") ∈ kv_nl := List.mem_filter.mpr ⟨List.mem_of_getElem? (i := 132) (by decide +kernel), rfl⟩
theorem mw_142 : (Cond.classLink "CursorRewriter" (34 : Nat) "CursorRewriter$Match") ∈ kv_tb := List.mem_filter.mpr ⟨List.mem_append_right _ (List.mem_of_getElem? (i := 142) (by decide +kernel)), rfl⟩
theorem mw_143 : (Cond.instantiable "CursorRewriter$Match" (1 : Nat)) ∈ kv_tb := List.mem_filter.mpr ⟨List.mem_append_right _ (List.mem_of_getElem? (i := 143) (by decide +kernel)), rfl⟩
theorem mw_144 : (Cond.methodLinkNest "CursorRewriter" (36 : Nat) ({ cls := "CursorRewriter$Match", name := "<init>", desc := "()V" } : Jvm.MethodName) "CursorRewriter") ∈ kv_nl := List.mem_filter.mpr ⟨List.mem_of_getElem? (i := 144) (by decide +kernel), rfl⟩
theorem mw_145 : (Cond.instanceMethod ({ cls := "CursorRewriter$Match", name := "<init>", desc := "()V" } : Jvm.MethodName)) ∈ kv_tb := List.mem_filter.mpr ⟨List.mem_append_right _ (List.mem_of_getElem? (i := 145) (by decide +kernel)), rfl⟩
theorem mw_146 : (Cond.code ({ cls := "CursorRewriter$Match", name := "<init>", desc := "()V" } : Jvm.MethodName) prog_2_method_1_code (1 : Nat) (Option.none : Option Jvm.ClassFile.FieldType)) ∈ kv_tb := List.mem_filter.mpr ⟨List.mem_append_right _ (List.mem_of_getElem? (i := 146) (by decide +kernel)), rfl⟩
theorem mw_147 : (Cond.methodLink "CursorRewriter$Match" (3 : Nat) ({ cls := "java/lang/Object", name := "<init>", desc := "()V" } : Jvm.MethodName)) ∈ kv_tb := List.mem_filter.mpr ⟨List.mem_append_right _ (List.mem_of_getElem? (i := 147) (by decide +kernel)), rfl⟩
theorem mw_148 : (Cond.fieldLink "CursorRewriter$Match" (9 : Nat) "CursorRewriter$Match" "begins" "[I") ∈ kv_tb := List.mem_filter.mpr ⟨List.mem_append_right _ (List.mem_of_getElem? (i := 148) (by decide +kernel)), rfl⟩
theorem mw_149 : (Cond.fieldLinkNest "CursorRewriter$Text" (25 : Nat) "CursorRewriter$Match" "begins" "[I" "CursorRewriter") ∈ kv_nl := List.mem_filter.mpr ⟨List.mem_of_getElem? (i := 149) (by decide +kernel), rfl⟩
theorem mw_153 : (Cond.fieldLink "CursorRewriter" (12 : Nat) "CursorRewriter" "statement" "LCursorRewriter$Statement;") ∈ kv_tb := List.mem_filter.mpr ⟨List.mem_append_right _ (List.mem_of_getElem? (i := 153) (by decide +kernel)), rfl⟩
theorem mw_154 : (Cond.fieldLink "CursorRewriter" (18 : Nat) "CursorRewriter" "ruleRow" "[LCursorRewriter$Rule;") ∈ kv_tb := List.mem_filter.mpr ⟨List.mem_append_right _ (List.mem_of_getElem? (i := 154) (by decide +kernel)), rfl⟩
theorem mw_155 : (Cond.fieldLink "CursorRewriter" (23 : Nat) "CursorRewriter" "ruleCount" "I") ∈ kv_tb := List.mem_filter.mpr ⟨List.mem_append_right _ (List.mem_of_getElem? (i := 155) (by decide +kernel)), rfl⟩
theorem mw_156 : (Cond.fieldLink "CursorRewriter" (30 : Nat) "CursorRewriter" "text" "LCursorRewriter$Text;") ∈ kv_tb := List.mem_filter.mpr ⟨List.mem_append_right _ (List.mem_of_getElem? (i := 156) (by decide +kernel)), rfl⟩
theorem mw_157 : (Cond.fieldLink "CursorRewriter" (37 : Nat) "CursorRewriter" "match" "LCursorRewriter$Match;") ∈ kv_tb := List.mem_filter.mpr ⟨List.mem_append_right _ (List.mem_of_getElem? (i := 157) (by decide +kernel)), rfl⟩
theorem mw_158 : (Cond.fieldLink "CursorRewriter" (41 : Nat) "CursorRewriter" "appliedCount" "I") ∈ kv_tb := List.mem_filter.mpr ⟨List.mem_append_right _ (List.mem_of_getElem? (i := 158) (by decide +kernel)), rfl⟩
theorem mw_159 : (Cond.fieldLink "CursorRewriter" (44 : Nat) "CursorRewriter" "latestRule" "I") ∈ kv_tb := List.mem_filter.mpr ⟨List.mem_append_right _ (List.mem_of_getElem? (i := 159) (by decide +kernel)), rfl⟩
theorem mw_160 : (Cond.fieldLink "CursorRewriter" (47 : Nat) "CursorRewriter" "isStuck" "Z") ∈ kv_tb := List.mem_filter.mpr ⟨List.mem_append_right _ (List.mem_of_getElem? (i := 160) (by decide +kernel)), rfl⟩
theorem mw_178 : (Cond.methodLink "CursorRewriterLaw" (13 : Nat) ({ cls := "CursorRewriter", name := "code", desc := "(C)I" } : Jvm.MethodName)) ∈ kv_tb := List.mem_filter.mpr ⟨List.mem_append_right _ (List.mem_of_getElem? (i := 178) (by decide +kernel)), rfl⟩
theorem mw_179 : (Cond.instanceMethod ({ cls := "CursorRewriter", name := "code", desc := "(C)I" } : Jvm.MethodName)) ∈ kv_tb := List.mem_filter.mpr ⟨List.mem_append_right _ (List.mem_of_getElem? (i := 179) (by decide +kernel)), rfl⟩
theorem mw_180 : (Cond.selects "CursorRewriter" ({ cls := "CursorRewriter", name := "code", desc := "(C)I" } : Jvm.MethodName) ({ cls := "CursorRewriter", name := "code", desc := "(C)I" } : Jvm.MethodName)) ∈ kv_tb := List.mem_filter.mpr ⟨List.mem_append_right _ (List.mem_of_getElem? (i := 180) (by decide +kernel)), rfl⟩
theorem mw_181 : (Cond.code ({ cls := "CursorRewriter", name := "code", desc := "(C)I" } : Jvm.MethodName) prog_1_method_2_code (3 : Nat) (Option.some Jvm.ClassFile.FieldType.int)) ∈ kv_tb := List.mem_filter.mpr ⟨List.mem_append_right _ (List.mem_of_getElem? (i := 181) (by decide +kernel)), rfl⟩
theorem mw_182 : (Cond.methodLink "CursorRewriter" (51 : Nat) ({ cls := "CursorRewriter$Statement", name := "looksLikeDefinition", desc := "()Z" } : Jvm.MethodName)) ∈ kv_tb := List.mem_filter.mpr ⟨List.mem_append_right _ (List.mem_of_getElem? (i := 182) (by decide +kernel)), rfl⟩
theorem mw_183 : (Cond.instanceMethod ({ cls := "CursorRewriter$Statement", name := "looksLikeDefinition", desc := "()Z" } : Jvm.MethodName)) ∈ kv_tb := List.mem_filter.mpr ⟨List.mem_append_right _ (List.mem_of_getElem? (i := 183) (by decide +kernel)), rfl⟩
theorem mw_184 : (Cond.selects "CursorRewriter$Statement" ({ cls := "CursorRewriter$Statement", name := "looksLikeDefinition", desc := "()Z" } : Jvm.MethodName) ({ cls := "CursorRewriter$Statement", name := "looksLikeDefinition", desc := "()Z" } : Jvm.MethodName)) ∈ kv_tb := List.mem_filter.mpr ⟨List.mem_append_right _ (List.mem_of_getElem? (i := 184) (by decide +kernel)), rfl⟩
theorem mw_185 : (Cond.code ({ cls := "CursorRewriter$Statement", name := "looksLikeDefinition", desc := "()Z" } : Jvm.MethodName) prog_4_method_5_code (1 : Nat) (Option.some Jvm.ClassFile.FieldType.boolean)) ∈ kv_tb := List.mem_filter.mpr ⟨List.mem_append_right _ (List.mem_of_getElem? (i := 185) (by decide +kernel)), rfl⟩
theorem mw_186 : (Cond.methodLinkNest "CursorRewriter$Statement" (36 : Nat) ({ cls := "CursorRewriter", name := "isCapital", desc := "(C)Z" } : Jvm.MethodName) "CursorRewriter") ∈ kv_nl := List.mem_filter.mpr ⟨List.mem_of_getElem? (i := 186) (by decide +kernel), rfl⟩
theorem mw_187 : (Cond.static ({ cls := "CursorRewriter", name := "isCapital", desc := "(C)Z" } : Jvm.MethodName)) ∈ kv_tb := List.mem_filter.mpr ⟨List.mem_append_right _ (List.mem_of_getElem? (i := 187) (by decide +kernel)), rfl⟩
theorem mw_188 : (Cond.code ({ cls := "CursorRewriter", name := "isCapital", desc := "(C)Z" } : Jvm.MethodName) prog_1_method_23_code (1 : Nat) (Option.some Jvm.ClassFile.FieldType.boolean)) ∈ kv_tb := List.mem_filter.mpr ⟨List.mem_append_right _ (List.mem_of_getElem? (i := 188) (by decide +kernel)), rfl⟩
theorem mw_189 : (Cond.methodLink "CursorRewriter" (55 : Nat) ({ cls := "CursorRewriter", name := "endDefinition", desc := "()I" } : Jvm.MethodName)) ∈ kv_tb := List.mem_filter.mpr ⟨List.mem_append_right _ (List.mem_of_getElem? (i := 189) (by decide +kernel)), rfl⟩
theorem mw_191 : (Cond.instanceMethod ({ cls := "CursorRewriter", name := "endDefinition", desc := "()I" } : Jvm.MethodName)) ∈ kv_tb := List.mem_filter.mpr ⟨List.mem_append_right _ (List.mem_of_getElem? (i := 191) (by decide +kernel)), rfl⟩
theorem mw_192 : (Cond.code ({ cls := "CursorRewriter", name := "endDefinition", desc := "()I" } : Jvm.MethodName) prog_1_method_16_code (1 : Nat) (Option.some Jvm.ClassFile.FieldType.int)) ∈ kv_tb := List.mem_filter.mpr ⟨List.mem_append_right _ (List.mem_of_getElem? (i := 192) (by decide +kernel)), rfl⟩
theorem mw_193 : (Cond.methodLink "CursorRewriter" (100 : Nat) ({ cls := "CursorRewriter$Statement", name := "readDefinition", desc := "()Z" } : Jvm.MethodName)) ∈ kv_tb := List.mem_filter.mpr ⟨List.mem_append_right _ (List.mem_of_getElem? (i := 193) (by decide +kernel)), rfl⟩
theorem mw_194 : (Cond.instanceMethod ({ cls := "CursorRewriter$Statement", name := "readDefinition", desc := "()Z" } : Jvm.MethodName)) ∈ kv_tb := List.mem_filter.mpr ⟨List.mem_append_right _ (List.mem_of_getElem? (i := 194) (by decide +kernel)), rfl⟩
theorem mw_195 : (Cond.selects "CursorRewriter$Statement" ({ cls := "CursorRewriter$Statement", name := "readDefinition", desc := "()Z" } : Jvm.MethodName) ({ cls := "CursorRewriter$Statement", name := "readDefinition", desc := "()Z" } : Jvm.MethodName)) ∈ kv_tb := List.mem_filter.mpr ⟨List.mem_append_right _ (List.mem_of_getElem? (i := 195) (by decide +kernel)), rfl⟩
theorem mw_196 : (Cond.code ({ cls := "CursorRewriter$Statement", name := "readDefinition", desc := "()Z" } : Jvm.MethodName) prog_4_method_6_code (1 : Nat) (Option.some Jvm.ClassFile.FieldType.boolean)) ∈ kv_tb := List.mem_filter.mpr ⟨List.mem_append_right _ (List.mem_of_getElem? (i := 196) (by decide +kernel)), rfl⟩
theorem mw_197 : (Cond.methodLink "CursorRewriter$Statement" (40 : Nat) ({ cls := "CursorRewriter$Statement", name := "readElement", desc := "()Z" } : Jvm.MethodName)) ∈ kv_tb := List.mem_filter.mpr ⟨List.mem_append_right _ (List.mem_of_getElem? (i := 197) (by decide +kernel)), rfl⟩
theorem mw_199 : (Cond.instanceMethod ({ cls := "CursorRewriter$Statement", name := "readElement", desc := "()Z" } : Jvm.MethodName)) ∈ kv_tb := List.mem_filter.mpr ⟨List.mem_append_right _ (List.mem_of_getElem? (i := 199) (by decide +kernel)), rfl⟩
theorem mw_200 : (Cond.code ({ cls := "CursorRewriter$Statement", name := "readElement", desc := "()Z" } : Jvm.MethodName) prog_4_method_13_code (2 : Nat) (Option.some Jvm.ClassFile.FieldType.boolean)) ∈ kv_tb := List.mem_filter.mpr ⟨List.mem_append_right _ (List.mem_of_getElem? (i := 200) (by decide +kernel)), rfl⟩
theorem mw_201 : (Cond.methodLink "CursorRewriter$Statement" (71 : Nat) ({ cls := "CursorRewriter$Statement", name := "next", desc := "()C" } : Jvm.MethodName)) ∈ kv_tb := List.mem_filter.mpr ⟨List.mem_append_right _ (List.mem_of_getElem? (i := 201) (by decide +kernel)), rfl⟩
theorem mw_203 : (Cond.instanceMethod ({ cls := "CursorRewriter$Statement", name := "next", desc := "()C" } : Jvm.MethodName)) ∈ kv_tb := List.mem_filter.mpr ⟨List.mem_append_right _ (List.mem_of_getElem? (i := 203) (by decide +kernel)), rfl⟩
theorem mw_204 : (Cond.code ({ cls := "CursorRewriter$Statement", name := "next", desc := "()C" } : Jvm.MethodName) prog_4_method_16_code (1 : Nat) (Option.some Jvm.ClassFile.FieldType.char)) ∈ kv_tb := List.mem_filter.mpr ⟨List.mem_append_right _ (List.mem_of_getElem? (i := 204) (by decide +kernel)), rfl⟩
theorem mw_205 : (Cond.methodLinkNest "CursorRewriter$Statement" (95 : Nat) ({ cls := "CursorRewriter", name := "isSmall", desc := "(C)Z" } : Jvm.MethodName) "CursorRewriter") ∈ kv_nl := List.mem_filter.mpr ⟨List.mem_of_getElem? (i := 205) (by decide +kernel), rfl⟩
theorem mw_206 : (Cond.static ({ cls := "CursorRewriter", name := "isSmall", desc := "(C)Z" } : Jvm.MethodName)) ∈ kv_tb := List.mem_filter.mpr ⟨List.mem_append_right _ (List.mem_of_getElem? (i := 206) (by decide +kernel)), rfl⟩
theorem mw_207 : (Cond.code ({ cls := "CursorRewriter", name := "isSmall", desc := "(C)Z" } : Jvm.MethodName) prog_1_method_22_code (1 : Nat) (Option.some Jvm.ClassFile.FieldType.boolean)) ∈ kv_tb := List.mem_filter.mpr ⟨List.mem_append_right _ (List.mem_of_getElem? (i := 207) (by decide +kernel)), rfl⟩
theorem mw_208 : (Cond.methodLink "CursorRewriter$Statement" (102 : Nat) ({ cls := "CursorRewriter$Statement", name := "lettersFromTo", desc := "(CC)I" } : Jvm.MethodName)) ∈ kv_tb := List.mem_filter.mpr ⟨List.mem_append_right _ (List.mem_of_getElem? (i := 208) (by decide +kernel)), rfl⟩
theorem mw_209 : (Cond.static ({ cls := "CursorRewriter$Statement", name := "lettersFromTo", desc := "(CC)I" } : Jvm.MethodName)) ∈ kv_tb := List.mem_filter.mpr ⟨List.mem_append_right _ (List.mem_of_getElem? (i := 209) (by decide +kernel)), rfl⟩
theorem mw_210 : (Cond.code ({ cls := "CursorRewriter$Statement", name := "lettersFromTo", desc := "(CC)I" } : Jvm.MethodName) prog_4_method_19_code (2 : Nat) (Option.some Jvm.ClassFile.FieldType.int)) ∈ kv_tb := List.mem_filter.mpr ⟨List.mem_append_right _ (List.mem_of_getElem? (i := 210) (by decide +kernel)), rfl⟩
theorem mw_211 : (Cond.constant "CursorRewriter$Statement" (106 : Nat) (67108863 : Int32)) ∈ kv_tb := List.mem_filter.mpr ⟨List.mem_append_right _ (List.mem_of_getElem? (i := 211) (by decide +kernel)), rfl⟩
theorem mw_212 : (Cond.methodLink "CursorRewriter$Statement" (107 : Nat) ({ cls := "CursorRewriter$Statement", name := "readBrackets", desc := "()Z" } : Jvm.MethodName)) ∈ kv_tb := List.mem_filter.mpr ⟨List.mem_append_right _ (List.mem_of_getElem? (i := 212) (by decide +kernel)), rfl⟩
theorem mw_214 : (Cond.instanceMethod ({ cls := "CursorRewriter$Statement", name := "readBrackets", desc := "()Z" } : Jvm.MethodName)) ∈ kv_tb := List.mem_filter.mpr ⟨List.mem_append_right _ (List.mem_of_getElem? (i := 214) (by decide +kernel)), rfl⟩
theorem mw_215 : (Cond.code ({ cls := "CursorRewriter$Statement", name := "readBrackets", desc := "()Z" } : Jvm.MethodName) prog_4_method_14_code (6 : Nat) (Option.some Jvm.ClassFile.FieldType.boolean)) ∈ kv_tb := List.mem_filter.mpr ⟨List.mem_append_right _ (List.mem_of_getElem? (i := 215) (by decide +kernel)), rfl⟩
theorem mw_216 : (Cond.methodLink "CursorRewriter$Statement" (51 : Nat) ({ cls := "CursorRewriter$Statement", name := "skip", desc := "(C)Z" } : Jvm.MethodName)) ∈ kv_tb := List.mem_filter.mpr ⟨List.mem_append_right _ (List.mem_of_getElem? (i := 216) (by decide +kernel)), rfl⟩
theorem mw_218 : (Cond.instanceMethod ({ cls := "CursorRewriter$Statement", name := "skip", desc := "(C)Z" } : Jvm.MethodName)) ∈ kv_tb := List.mem_filter.mpr ⟨List.mem_append_right _ (List.mem_of_getElem? (i := 218) (by decide +kernel)), rfl⟩
theorem mw_219 : (Cond.code ({ cls := "CursorRewriter$Statement", name := "skip", desc := "(C)Z" } : Jvm.MethodName) prog_4_method_17_code (2 : Nat) (Option.some Jvm.ClassFile.FieldType.boolean)) ∈ kv_tb := List.mem_filter.mpr ⟨List.mem_append_right _ (List.mem_of_getElem? (i := 219) (by decide +kernel)), rfl⟩
theorem mw_220 : (Cond.methodLink "CursorRewriter" (106 : Nat) ({ cls := "CursorRewriter$Statement", name := "define", desc := "()V" } : Jvm.MethodName)) ∈ kv_tb := List.mem_filter.mpr ⟨List.mem_append_right _ (List.mem_of_getElem? (i := 220) (by decide +kernel)), rfl⟩
theorem mw_221 : (Cond.instanceMethod ({ cls := "CursorRewriter$Statement", name := "define", desc := "()V" } : Jvm.MethodName)) ∈ kv_tb := List.mem_filter.mpr ⟨List.mem_append_right _ (List.mem_of_getElem? (i := 221) (by decide +kernel)), rfl⟩
theorem mw_222 : (Cond.selects "CursorRewriter$Statement" ({ cls := "CursorRewriter$Statement", name := "define", desc := "()V" } : Jvm.MethodName) ({ cls := "CursorRewriter$Statement", name := "define", desc := "()V" } : Jvm.MethodName)) ∈ kv_tb := List.mem_filter.mpr ⟨List.mem_append_right _ (List.mem_of_getElem? (i := 222) (by decide +kernel)), rfl⟩
theorem mw_223 : (Cond.code ({ cls := "CursorRewriter$Statement", name := "define", desc := "()V" } : Jvm.MethodName) prog_4_method_7_code (1 : Nat) (Option.none : Option Jvm.ClassFile.FieldType)) ∈ kv_tb := List.mem_filter.mpr ⟨List.mem_append_right _ (List.mem_of_getElem? (i := 223) (by decide +kernel)), rfl⟩
theorem mw_224 : (Cond.methodLink "CursorRewriter" (59 : Nat) ({ cls := "CursorRewriter", name := "endRule", desc := "()I" } : Jvm.MethodName)) ∈ kv_tb := List.mem_filter.mpr ⟨List.mem_append_right _ (List.mem_of_getElem? (i := 224) (by decide +kernel)), rfl⟩
theorem mw_226 : (Cond.instanceMethod ({ cls := "CursorRewriter", name := "endRule", desc := "()I" } : Jvm.MethodName)) ∈ kv_tb := List.mem_filter.mpr ⟨List.mem_append_right _ (List.mem_of_getElem? (i := 226) (by decide +kernel)), rfl⟩
theorem mw_227 : (Cond.code ({ cls := "CursorRewriter", name := "endRule", desc := "()I" } : Jvm.MethodName) prog_1_method_17_code (2 : Nat) (Option.some Jvm.ClassFile.FieldType.int)) ∈ kv_tb := List.mem_filter.mpr ⟨List.mem_append_right _ (List.mem_of_getElem? (i := 227) (by decide +kernel)), rfl⟩
theorem mw_228 : (Cond.methodLink "CursorRewriter" (109 : Nat) ({ cls := "CursorRewriter$Rule", name := "clear", desc := "()V" } : Jvm.MethodName)) ∈ kv_tb := List.mem_filter.mpr ⟨List.mem_append_right _ (List.mem_of_getElem? (i := 228) (by decide +kernel)), rfl⟩
theorem mw_229 : (Cond.instanceMethod ({ cls := "CursorRewriter$Rule", name := "clear", desc := "()V" } : Jvm.MethodName)) ∈ kv_tb := List.mem_filter.mpr ⟨List.mem_append_right _ (List.mem_of_getElem? (i := 229) (by decide +kernel)), rfl⟩
theorem mw_230 : (Cond.selects "CursorRewriter$Rule" ({ cls := "CursorRewriter$Rule", name := "clear", desc := "()V" } : Jvm.MethodName) ({ cls := "CursorRewriter$Rule", name := "clear", desc := "()V" } : Jvm.MethodName)) ∈ kv_tb := List.mem_filter.mpr ⟨List.mem_append_right _ (List.mem_of_getElem? (i := 230) (by decide +kernel)), rfl⟩
theorem mw_231 : (Cond.code ({ cls := "CursorRewriter$Rule", name := "clear", desc := "()V" } : Jvm.MethodName) prog_3_method_2_code (1 : Nat) (Option.none : Option Jvm.ClassFile.FieldType)) ∈ kv_tb := List.mem_filter.mpr ⟨List.mem_append_right _ (List.mem_of_getElem? (i := 231) (by decide +kernel)), rfl⟩
theorem mw_232 : (Cond.methodLink "CursorRewriter" (110 : Nat) ({ cls := "CursorRewriter$Statement", name := "readRule", desc := "(LCursorRewriter$Rule;)Z" } : Jvm.MethodName)) ∈ kv_tb := List.mem_filter.mpr ⟨List.mem_append_right _ (List.mem_of_getElem? (i := 232) (by decide +kernel)), rfl⟩
theorem mw_233 : (Cond.instanceMethod ({ cls := "CursorRewriter$Statement", name := "readRule", desc := "(LCursorRewriter$Rule;)Z" } : Jvm.MethodName)) ∈ kv_tb := List.mem_filter.mpr ⟨List.mem_append_right _ (List.mem_of_getElem? (i := 233) (by decide +kernel)), rfl⟩
theorem mw_234 : (Cond.selects "CursorRewriter$Statement" ({ cls := "CursorRewriter$Statement", name := "readRule", desc := "(LCursorRewriter$Rule;)Z" } : Jvm.MethodName) ({ cls := "CursorRewriter$Statement", name := "readRule", desc := "(LCursorRewriter$Rule;)Z" } : Jvm.MethodName)) ∈ kv_tb := List.mem_filter.mpr ⟨List.mem_append_right _ (List.mem_of_getElem? (i := 234) (by decide +kernel)), rfl⟩
theorem mw_235 : (Cond.code ({ cls := "CursorRewriter$Statement", name := "readRule", desc := "(LCursorRewriter$Rule;)Z" } : Jvm.MethodName) prog_4_method_8_code (2 : Nat) (Option.some Jvm.ClassFile.FieldType.boolean)) ∈ kv_tb := List.mem_filter.mpr ⟨List.mem_append_right _ (List.mem_of_getElem? (i := 235) (by decide +kernel)), rfl⟩
theorem mw_236 : (Cond.methodLink "CursorRewriter$Statement" (44 : Nat) ({ cls := "CursorRewriter$Statement", name := "hasOpeningBrace", desc := "()Z" } : Jvm.MethodName)) ∈ kv_tb := List.mem_filter.mpr ⟨List.mem_append_right _ (List.mem_of_getElem? (i := 236) (by decide +kernel)), rfl⟩
theorem mw_238 : (Cond.instanceMethod ({ cls := "CursorRewriter$Statement", name := "hasOpeningBrace", desc := "()Z" } : Jvm.MethodName)) ∈ kv_tb := List.mem_filter.mpr ⟨List.mem_append_right _ (List.mem_of_getElem? (i := 238) (by decide +kernel)), rfl⟩
theorem mw_239 : (Cond.code ({ cls := "CursorRewriter$Statement", name := "hasOpeningBrace", desc := "()Z" } : Jvm.MethodName) prog_4_method_9_code (2 : Nat) (Option.some Jvm.ClassFile.FieldType.boolean)) ∈ kv_tb := List.mem_filter.mpr ⟨List.mem_append_right _ (List.mem_of_getElem? (i := 239) (by decide +kernel)), rfl⟩
theorem mw_240 : (Cond.methodLink "CursorRewriter$Statement" (47 : Nat) ({ cls := "CursorRewriter$Statement", name := "readContext", desc := "(LCursorRewriter$Rule;)Z" } : Jvm.MethodName)) ∈ kv_tb := List.mem_filter.mpr ⟨List.mem_append_right _ (List.mem_of_getElem? (i := 240) (by decide +kernel)), rfl⟩
theorem mw_242 : (Cond.instanceMethod ({ cls := "CursorRewriter$Statement", name := "readContext", desc := "(LCursorRewriter$Rule;)Z" } : Jvm.MethodName)) ∈ kv_tb := List.mem_filter.mpr ⟨List.mem_append_right _ (List.mem_of_getElem? (i := 242) (by decide +kernel)), rfl⟩
theorem mw_243 : (Cond.code ({ cls := "CursorRewriter$Statement", name := "readContext", desc := "(LCursorRewriter$Rule;)Z" } : Jvm.MethodName) prog_4_method_10_code (3 : Nat) (Option.some Jvm.ClassFile.FieldType.boolean)) ∈ kv_tb := List.mem_filter.mpr ⟨List.mem_append_right _ (List.mem_of_getElem? (i := 243) (by decide +kernel)), rfl⟩
theorem mw_244 : (Cond.methodLink "CursorRewriter$Statement" (75 : Nat) ({ cls := "CursorRewriter$Statement", name := "beginsElement", desc := "(C)Z" } : Jvm.MethodName)) ∈ kv_tb := List.mem_filter.mpr ⟨List.mem_append_right _ (List.mem_of_getElem? (i := 244) (by decide +kernel)), rfl⟩
theorem mw_245 : (Cond.static ({ cls := "CursorRewriter$Statement", name := "beginsElement", desc := "(C)Z" } : Jvm.MethodName)) ∈ kv_tb := List.mem_filter.mpr ⟨List.mem_append_right _ (List.mem_of_getElem? (i := 245) (by decide +kernel)), rfl⟩
theorem mw_246 : (Cond.code ({ cls := "CursorRewriter$Statement", name := "beginsElement", desc := "(C)Z" } : Jvm.MethodName) prog_4_method_18_code (1 : Nat) (Option.some Jvm.ClassFile.FieldType.boolean)) ∈ kv_tb := List.mem_filter.mpr ⟨List.mem_append_right _ (List.mem_of_getElem? (i := 246) (by decide +kernel)), rfl⟩
theorem mw_247 : (Cond.methodLink "CursorRewriter$Statement" (78 : Nat) ({ cls := "CursorRewriter$Statement", name := "readQuantifier", desc := "()C" } : Jvm.MethodName)) ∈ kv_tb := List.mem_filter.mpr ⟨List.mem_append_right _ (List.mem_of_getElem? (i := 247) (by decide +kernel)), rfl⟩
theorem mw_249 : (Cond.instanceMethod ({ cls := "CursorRewriter$Statement", name := "readQuantifier", desc := "()C" } : Jvm.MethodName)) ∈ kv_tb := List.mem_filter.mpr ⟨List.mem_append_right _ (List.mem_of_getElem? (i := 249) (by decide +kernel)), rfl⟩
theorem mw_250 : (Cond.code ({ cls := "CursorRewriter$Statement", name := "readQuantifier", desc := "()C" } : Jvm.MethodName) prog_4_method_15_code (2 : Nat) (Option.some Jvm.ClassFile.FieldType.char)) ∈ kv_tb := List.mem_filter.mpr ⟨List.mem_append_right _ (List.mem_of_getElem? (i := 250) (by decide +kernel)), rfl⟩
theorem mw_251 : (Cond.methodLink "CursorRewriter$Statement" (81 : Nat) ({ cls := "CursorRewriter$Rule", name := "addElement", desc := "(IC)V" } : Jvm.MethodName)) ∈ kv_tb := List.mem_filter.mpr ⟨List.mem_append_right _ (List.mem_of_getElem? (i := 251) (by decide +kernel)), rfl⟩
theorem mw_252 : (Cond.instanceMethod ({ cls := "CursorRewriter$Rule", name := "addElement", desc := "(IC)V" } : Jvm.MethodName)) ∈ kv_tb := List.mem_filter.mpr ⟨List.mem_append_right _ (List.mem_of_getElem? (i := 252) (by decide +kernel)), rfl⟩
theorem mw_253 : (Cond.selects "CursorRewriter$Rule" ({ cls := "CursorRewriter$Rule", name := "addElement", desc := "(IC)V" } : Jvm.MethodName) ({ cls := "CursorRewriter$Rule", name := "addElement", desc := "(IC)V" } : Jvm.MethodName)) ∈ kv_tb := List.mem_filter.mpr ⟨List.mem_append_right _ (List.mem_of_getElem? (i := 253) (by decide +kernel)), rfl⟩
theorem mw_254 : (Cond.code ({ cls := "CursorRewriter$Rule", name := "addElement", desc := "(IC)V" } : Jvm.MethodName) prog_3_method_3_code (5 : Nat) (Option.none : Option Jvm.ClassFile.FieldType)) ∈ kv_tb := List.mem_filter.mpr ⟨List.mem_append_right _ (List.mem_of_getElem? (i := 254) (by decide +kernel)), rfl⟩
theorem mw_255 : (Cond.methodLink "CursorRewriter$Statement" (62 : Nat) ({ cls := "CursorRewriter$Statement", name := "readKey", desc := "(LCursorRewriter$Rule;)Z" } : Jvm.MethodName)) ∈ kv_tb := List.mem_filter.mpr ⟨List.mem_append_right _ (List.mem_of_getElem? (i := 255) (by decide +kernel)), rfl⟩
theorem mw_257 : (Cond.instanceMethod ({ cls := "CursorRewriter$Statement", name := "readKey", desc := "(LCursorRewriter$Rule;)Z" } : Jvm.MethodName)) ∈ kv_tb := List.mem_filter.mpr ⟨List.mem_append_right _ (List.mem_of_getElem? (i := 257) (by decide +kernel)), rfl⟩
theorem mw_258 : (Cond.code ({ cls := "CursorRewriter$Statement", name := "readKey", desc := "(LCursorRewriter$Rule;)Z" } : Jvm.MethodName) prog_4_method_11_code (5 : Nat) (Option.some Jvm.ClassFile.FieldType.boolean)) ∈ kv_tb := List.mem_filter.mpr ⟨List.mem_append_right _ (List.mem_of_getElem? (i := 258) (by decide +kernel)), rfl⟩
theorem mw_259 : (Cond.methodLink "CursorRewriter$Statement" (85 : Nat) ({ cls := "CursorRewriter$Rule", name := "addSegment", desc := "(I)V" } : Jvm.MethodName)) ∈ kv_tb := List.mem_filter.mpr ⟨List.mem_append_right _ (List.mem_of_getElem? (i := 259) (by decide +kernel)), rfl⟩
theorem mw_260 : (Cond.instanceMethod ({ cls := "CursorRewriter$Rule", name := "addSegment", desc := "(I)V" } : Jvm.MethodName)) ∈ kv_tb := List.mem_filter.mpr ⟨List.mem_append_right _ (List.mem_of_getElem? (i := 260) (by decide +kernel)), rfl⟩
theorem mw_261 : (Cond.selects "CursorRewriter$Rule" ({ cls := "CursorRewriter$Rule", name := "addSegment", desc := "(I)V" } : Jvm.MethodName) ({ cls := "CursorRewriter$Rule", name := "addSegment", desc := "(I)V" } : Jvm.MethodName)) ∈ kv_tb := List.mem_filter.mpr ⟨List.mem_append_right _ (List.mem_of_getElem? (i := 261) (by decide +kernel)), rfl⟩
theorem mw_262 : (Cond.code ({ cls := "CursorRewriter$Rule", name := "addSegment", desc := "(I)V" } : Jvm.MethodName) prog_3_method_4_code (2 : Nat) (Option.none : Option Jvm.ClassFile.FieldType)) ∈ kv_tb := List.mem_filter.mpr ⟨List.mem_append_right _ (List.mem_of_getElem? (i := 262) (by decide +kernel)), rfl⟩
theorem mw_263 : (Cond.methodLink "CursorRewriter$Statement" (68 : Nat) ({ cls := "CursorRewriter$Statement", name := "readReplacement", desc := "(LCursorRewriter$Rule;)Z" } : Jvm.MethodName)) ∈ kv_tb := List.mem_filter.mpr ⟨List.mem_append_right _ (List.mem_of_getElem? (i := 263) (by decide +kernel)), rfl⟩
theorem mw_265 : (Cond.instanceMethod ({ cls := "CursorRewriter$Statement", name := "readReplacement", desc := "(LCursorRewriter$Rule;)Z" } : Jvm.MethodName)) ∈ kv_tb := List.mem_filter.mpr ⟨List.mem_append_right _ (List.mem_of_getElem? (i := 265) (by decide +kernel)), rfl⟩
theorem mw_266 : (Cond.code ({ cls := "CursorRewriter$Statement", name := "readReplacement", desc := "(LCursorRewriter$Rule;)Z" } : Jvm.MethodName) prog_4_method_12_code (4 : Nat) (Option.some Jvm.ClassFile.FieldType.boolean)) ∈ kv_tb := List.mem_filter.mpr ⟨List.mem_append_right _ (List.mem_of_getElem? (i := 266) (by decide +kernel)), rfl⟩
theorem mw_267 : (Cond.methodLink "CursorRewriter$Statement" (98 : Nat) ({ cls := "CursorRewriter$Rule", name := "addPiece", desc := "(C)V" } : Jvm.MethodName)) ∈ kv_tb := List.mem_filter.mpr ⟨List.mem_append_right _ (List.mem_of_getElem? (i := 267) (by decide +kernel)), rfl⟩
theorem mw_268 : (Cond.instanceMethod ({ cls := "CursorRewriter$Rule", name := "addPiece", desc := "(C)V" } : Jvm.MethodName)) ∈ kv_tb := List.mem_filter.mpr ⟨List.mem_append_right _ (List.mem_of_getElem? (i := 268) (by decide +kernel)), rfl⟩
theorem mw_269 : (Cond.selects "CursorRewriter$Rule" ({ cls := "CursorRewriter$Rule", name := "addPiece", desc := "(C)V" } : Jvm.MethodName) ({ cls := "CursorRewriter$Rule", name := "addPiece", desc := "(C)V" } : Jvm.MethodName)) ∈ kv_tb := List.mem_filter.mpr ⟨List.mem_append_right _ (List.mem_of_getElem? (i := 269) (by decide +kernel)), rfl⟩
theorem mw_270 : (Cond.code ({ cls := "CursorRewriter$Rule", name := "addPiece", desc := "(C)V" } : Jvm.MethodName) prog_3_method_5_code (2 : Nat) (Option.none : Option Jvm.ClassFile.FieldType)) ∈ kv_tb := List.mem_filter.mpr ⟨List.mem_append_right _ (List.mem_of_getElem? (i := 270) (by decide +kernel)), rfl⟩
theorem mw_271 : (Cond.methodLinkNest "CursorRewriter$Rule" (57 : Nat) ({ cls := "CursorRewriter", name := "isSmall", desc := "(C)Z" } : Jvm.MethodName) "CursorRewriter") ∈ kv_nl := List.mem_filter.mpr ⟨List.mem_of_getElem? (i := 271) (by decide +kernel), rfl⟩
theorem mw_272 : (Cond.methodLink "CursorRewriter$Rule" (61 : Nat) ({ cls := "java/lang/Math", name := "max", desc := "(II)I" } : Jvm.MethodName)) ∈ kv_tb := List.mem_filter.mpr ⟨List.mem_append_right _ (List.mem_of_getElem? (i := 272) (by decide +kernel)), rfl⟩
theorem mw_273 : (Cond.static ({ cls := "java/lang/Math", name := "max", desc := "(II)I" } : Jvm.MethodName)) ∈ kv_tb := List.mem_filter.mpr ⟨List.mem_append_right _ (List.mem_of_getElem? (i := 273) (by decide +kernel)), rfl⟩
theorem mw_274 : (Cond.code ({ cls := "java/lang/Math", name := "max", desc := "(II)I" } : Jvm.MethodName) prog_8_method_65_code (2 : Nat) (Option.some Jvm.ClassFile.FieldType.int)) ∈ kv_tb := List.mem_filter.mpr ⟨List.mem_append_right _ (List.mem_of_getElem? (i := 274) (by decide +kernel)), rfl⟩
theorem mw_275 : (Cond.methodLink "CursorRewriter" (120 : Nat) ({ cls := "CursorRewriter$Rule", name := "isTooLarge", desc := "()Z" } : Jvm.MethodName)) ∈ kv_tb := List.mem_filter.mpr ⟨List.mem_append_right _ (List.mem_of_getElem? (i := 275) (by decide +kernel)), rfl⟩
theorem mw_276 : (Cond.instanceMethod ({ cls := "CursorRewriter$Rule", name := "isTooLarge", desc := "()Z" } : Jvm.MethodName)) ∈ kv_tb := List.mem_filter.mpr ⟨List.mem_append_right _ (List.mem_of_getElem? (i := 276) (by decide +kernel)), rfl⟩
theorem mw_277 : (Cond.selects "CursorRewriter$Rule" ({ cls := "CursorRewriter$Rule", name := "isTooLarge", desc := "()Z" } : Jvm.MethodName) ({ cls := "CursorRewriter$Rule", name := "isTooLarge", desc := "()Z" } : Jvm.MethodName)) ∈ kv_tb := List.mem_filter.mpr ⟨List.mem_append_right _ (List.mem_of_getElem? (i := 277) (by decide +kernel)), rfl⟩
theorem mw_278 : (Cond.code ({ cls := "CursorRewriter$Rule", name := "isTooLarge", desc := "()Z" } : Jvm.MethodName) prog_3_method_6_code (1 : Nat) (Option.some Jvm.ClassFile.FieldType.boolean)) ∈ kv_tb := List.mem_filter.mpr ⟨List.mem_append_right _ (List.mem_of_getElem? (i := 278) (by decide +kernel)), rfl⟩
theorem mw_279 : (Cond.methodLink "CursorRewriter" (123 : Nat) ({ cls := "CursorRewriter", name := "isMasked", desc := "(LCursorRewriter$Rule;)Z" } : Jvm.MethodName)) ∈ kv_tb := List.mem_filter.mpr ⟨List.mem_append_right _ (List.mem_of_getElem? (i := 279) (by decide +kernel)), rfl⟩
theorem mw_281 : (Cond.instanceMethod ({ cls := "CursorRewriter", name := "isMasked", desc := "(LCursorRewriter$Rule;)Z" } : Jvm.MethodName)) ∈ kv_tb := List.mem_filter.mpr ⟨List.mem_append_right _ (List.mem_of_getElem? (i := 281) (by decide +kernel)), rfl⟩
theorem mw_282 : (Cond.code ({ cls := "CursorRewriter", name := "isMasked", desc := "(LCursorRewriter$Rule;)Z" } : Jvm.MethodName) prog_1_method_18_code (3 : Nat) (Option.some Jvm.ClassFile.FieldType.boolean)) ∈ kv_tb := List.mem_filter.mpr ⟨List.mem_append_right _ (List.mem_of_getElem? (i := 282) (by decide +kernel)), rfl⟩
theorem mw_283 : (Cond.methodLink "CursorRewriter" (126 : Nat) ({ cls := "CursorRewriter$Rule", name := "masks", desc := "(LCursorRewriter$Rule;)Z" } : Jvm.MethodName)) ∈ kv_tb := List.mem_filter.mpr ⟨List.mem_append_right _ (List.mem_of_getElem? (i := 283) (by decide +kernel)), rfl⟩
theorem mw_284 : (Cond.instanceMethod ({ cls := "CursorRewriter$Rule", name := "masks", desc := "(LCursorRewriter$Rule;)Z" } : Jvm.MethodName)) ∈ kv_tb := List.mem_filter.mpr ⟨List.mem_append_right _ (List.mem_of_getElem? (i := 284) (by decide +kernel)), rfl⟩
theorem mw_285 : (Cond.selects "CursorRewriter$Rule" ({ cls := "CursorRewriter$Rule", name := "masks", desc := "(LCursorRewriter$Rule;)Z" } : Jvm.MethodName) ({ cls := "CursorRewriter$Rule", name := "masks", desc := "(LCursorRewriter$Rule;)Z" } : Jvm.MethodName)) ∈ kv_tb := List.mem_filter.mpr ⟨List.mem_append_right _ (List.mem_of_getElem? (i := 285) (by decide +kernel)), rfl⟩
theorem mw_286 : (Cond.code ({ cls := "CursorRewriter$Rule", name := "masks", desc := "(LCursorRewriter$Rule;)Z" } : Jvm.MethodName) prog_3_method_7_code (4 : Nat) (Option.some Jvm.ClassFile.FieldType.boolean)) ∈ kv_tb := List.mem_filter.mpr ⟨List.mem_append_right _ (List.mem_of_getElem? (i := 286) (by decide +kernel)), rfl⟩
theorem mw_287 : (Cond.methodLink "CursorRewriter" (62 : Nat) ({ cls := "CursorRewriter$Statement", name := "clear", desc := "()V" } : Jvm.MethodName)) ∈ kv_tb := List.mem_filter.mpr ⟨List.mem_append_right _ (List.mem_of_getElem? (i := 287) (by decide +kernel)), rfl⟩
theorem mw_288 : (Cond.instanceMethod ({ cls := "CursorRewriter$Statement", name := "clear", desc := "()V" } : Jvm.MethodName)) ∈ kv_tb := List.mem_filter.mpr ⟨List.mem_append_right _ (List.mem_of_getElem? (i := 288) (by decide +kernel)), rfl⟩
theorem mw_289 : (Cond.selects "CursorRewriter$Statement" ({ cls := "CursorRewriter$Statement", name := "clear", desc := "()V" } : Jvm.MethodName) ({ cls := "CursorRewriter$Statement", name := "clear", desc := "()V" } : Jvm.MethodName)) ∈ kv_tb := List.mem_filter.mpr ⟨List.mem_append_right _ (List.mem_of_getElem? (i := 289) (by decide +kernel)), rfl⟩
theorem mw_290 : (Cond.code ({ cls := "CursorRewriter$Statement", name := "clear", desc := "()V" } : Jvm.MethodName) prog_4_method_2_code (1 : Nat) (Option.none : Option Jvm.ClassFile.FieldType)) ∈ kv_tb := List.mem_filter.mpr ⟨List.mem_append_right _ (List.mem_of_getElem? (i := 290) (by decide +kernel)), rfl⟩
theorem mw_291 : (Cond.methodLink "CursorRewriter" (65 : Nat) ({ cls := "CursorRewriter$Statement", name := "type", desc := "(C)Z" } : Jvm.MethodName)) ∈ kv_tb := List.mem_filter.mpr ⟨List.mem_append_right _ (List.mem_of_getElem? (i := 291) (by decide +kernel)), rfl⟩
theorem mw_292 : (Cond.instanceMethod ({ cls := "CursorRewriter$Statement", name := "type", desc := "(C)Z" } : Jvm.MethodName)) ∈ kv_tb := List.mem_filter.mpr ⟨List.mem_append_right _ (List.mem_of_getElem? (i := 292) (by decide +kernel)), rfl⟩
theorem mw_293 : (Cond.selects "CursorRewriter$Statement" ({ cls := "CursorRewriter$Statement", name := "type", desc := "(C)Z" } : Jvm.MethodName) ({ cls := "CursorRewriter$Statement", name := "type", desc := "(C)Z" } : Jvm.MethodName)) ∈ kv_tb := List.mem_filter.mpr ⟨List.mem_append_right _ (List.mem_of_getElem? (i := 293) (by decide +kernel)), rfl⟩
theorem mw_294 : (Cond.code ({ cls := "CursorRewriter$Statement", name := "type", desc := "(C)Z" } : Jvm.MethodName) prog_4_method_4_code (2 : Nat) (Option.some Jvm.ClassFile.FieldType.boolean)) ∈ kv_tb := List.mem_filter.mpr ⟨List.mem_append_right _ (List.mem_of_getElem? (i := 294) (by decide +kernel)), rfl⟩
theorem mw_295 : (Cond.methodLink "CursorRewriterLaw" (18 : Nat) ({ cls := "CursorRewriter", name := "rules", desc := "()I" } : Jvm.MethodName)) ∈ kv_tb := List.mem_filter.mpr ⟨List.mem_append_right _ (List.mem_of_getElem? (i := 295) (by decide +kernel)), rfl⟩
theorem mw_296 : (Cond.instanceMethod ({ cls := "CursorRewriter", name := "rules", desc := "()I" } : Jvm.MethodName)) ∈ kv_tb := List.mem_filter.mpr ⟨List.mem_append_right _ (List.mem_of_getElem? (i := 296) (by decide +kernel)), rfl⟩
theorem mw_297 : (Cond.selects "CursorRewriter" ({ cls := "CursorRewriter", name := "rules", desc := "()I" } : Jvm.MethodName) ({ cls := "CursorRewriter", name := "rules", desc := "()I" } : Jvm.MethodName)) ∈ kv_tb := List.mem_filter.mpr ⟨List.mem_append_right _ (List.mem_of_getElem? (i := 297) (by decide +kernel)), rfl⟩
theorem mw_298 : (Cond.code ({ cls := "CursorRewriter", name := "rules", desc := "()I" } : Jvm.MethodName) prog_1_method_3_code (1 : Nat) (Option.some Jvm.ClassFile.FieldType.int)) ∈ kv_tb := List.mem_filter.mpr ⟨List.mem_append_right _ (List.mem_of_getElem? (i := 298) (by decide +kernel)), rfl⟩
theorem mw_299 : (Cond.methodLink "CursorRewriterLaw" (23 : Nat) ({ cls := "CursorRewriter", name := "forget", desc := "()V" } : Jvm.MethodName)) ∈ kv_tb := List.mem_filter.mpr ⟨List.mem_append_right _ (List.mem_of_getElem? (i := 299) (by decide +kernel)), rfl⟩
theorem mw_300 : (Cond.instanceMethod ({ cls := "CursorRewriter", name := "forget", desc := "()V" } : Jvm.MethodName)) ∈ kv_tb := List.mem_filter.mpr ⟨List.mem_append_right _ (List.mem_of_getElem? (i := 300) (by decide +kernel)), rfl⟩
theorem mw_301 : (Cond.selects "CursorRewriter" ({ cls := "CursorRewriter", name := "forget", desc := "()V" } : Jvm.MethodName) ({ cls := "CursorRewriter", name := "forget", desc := "()V" } : Jvm.MethodName)) ∈ kv_tb := List.mem_filter.mpr ⟨List.mem_append_right _ (List.mem_of_getElem? (i := 301) (by decide +kernel)), rfl⟩
theorem mw_302 : (Cond.code ({ cls := "CursorRewriter", name := "forget", desc := "()V" } : Jvm.MethodName) prog_1_method_4_code (1 : Nat) (Option.none : Option Jvm.ClassFile.FieldType)) ∈ kv_tb := List.mem_filter.mpr ⟨List.mem_append_right _ (List.mem_of_getElem? (i := 302) (by decide +kernel)), rfl⟩
theorem mw_303 : (Cond.methodLink "CursorRewriter" (69 : Nat) ({ cls := "CursorRewriter$Statement", name := "clearMeanings", desc := "()V" } : Jvm.MethodName)) ∈ kv_tb := List.mem_filter.mpr ⟨List.mem_append_right _ (List.mem_of_getElem? (i := 303) (by decide +kernel)), rfl⟩
theorem mw_304 : (Cond.methodLink "CursorRewriter" (72 : Nat) ({ cls := "CursorRewriter", name := "restart", desc := "()V" } : Jvm.MethodName)) ∈ kv_tb := List.mem_filter.mpr ⟨List.mem_append_right _ (List.mem_of_getElem? (i := 304) (by decide +kernel)), rfl⟩
theorem mw_305 : (Cond.instanceMethod ({ cls := "CursorRewriter", name := "restart", desc := "()V" } : Jvm.MethodName)) ∈ kv_tb := List.mem_filter.mpr ⟨List.mem_append_right _ (List.mem_of_getElem? (i := 305) (by decide +kernel)), rfl⟩
theorem mw_306 : (Cond.selects "CursorRewriter" ({ cls := "CursorRewriter", name := "restart", desc := "()V" } : Jvm.MethodName) ({ cls := "CursorRewriter", name := "restart", desc := "()V" } : Jvm.MethodName)) ∈ kv_tb := List.mem_filter.mpr ⟨List.mem_append_right _ (List.mem_of_getElem? (i := 306) (by decide +kernel)), rfl⟩
theorem mw_307 : (Cond.code ({ cls := "CursorRewriter", name := "restart", desc := "()V" } : Jvm.MethodName) prog_1_method_5_code (1 : Nat) (Option.none : Option Jvm.ClassFile.FieldType)) ∈ kv_tb := List.mem_filter.mpr ⟨List.mem_append_right _ (List.mem_of_getElem? (i := 307) (by decide +kernel)), rfl⟩
theorem mw_308 : (Cond.methodLink "CursorRewriter" (75 : Nat) ({ cls := "CursorRewriter$Text", name := "clear", desc := "()V" } : Jvm.MethodName)) ∈ kv_tb := List.mem_filter.mpr ⟨List.mem_append_right _ (List.mem_of_getElem? (i := 308) (by decide +kernel)), rfl⟩
theorem mw_309 : (Cond.instanceMethod ({ cls := "CursorRewriter$Text", name := "clear", desc := "()V" } : Jvm.MethodName)) ∈ kv_tb := List.mem_filter.mpr ⟨List.mem_append_right _ (List.mem_of_getElem? (i := 309) (by decide +kernel)), rfl⟩
theorem mw_310 : (Cond.selects "CursorRewriter$Text" ({ cls := "CursorRewriter$Text", name := "clear", desc := "()V" } : Jvm.MethodName) ({ cls := "CursorRewriter$Text", name := "clear", desc := "()V" } : Jvm.MethodName)) ∈ kv_tb := List.mem_filter.mpr ⟨List.mem_append_right _ (List.mem_of_getElem? (i := 310) (by decide +kernel)), rfl⟩
theorem mw_311 : (Cond.code ({ cls := "CursorRewriter$Text", name := "clear", desc := "()V" } : Jvm.MethodName) prog_5_method_2_code (1 : Nat) (Option.none : Option Jvm.ClassFile.FieldType)) ∈ kv_tb := List.mem_filter.mpr ⟨List.mem_append_right _ (List.mem_of_getElem? (i := 311) (by decide +kernel)), rfl⟩
theorem mw_312 : (Cond.methodLink "CursorRewriterLaw" (27 : Nat) ({ cls := "CursorRewriter", name := "restart", desc := "()V" } : Jvm.MethodName)) ∈ kv_tb := List.mem_filter.mpr ⟨List.mem_append_right _ (List.mem_of_getElem? (i := 312) (by decide +kernel)), rfl⟩
theorem mw_313 : (Cond.methodLink "CursorRewriterLaw" (31 : Nat) ({ cls := "CursorRewriter", name := "write", desc := "(C)Z" } : Jvm.MethodName)) ∈ kv_tb := List.mem_filter.mpr ⟨List.mem_append_right _ (List.mem_of_getElem? (i := 313) (by decide +kernel)), rfl⟩
theorem mw_314 : (Cond.instanceMethod ({ cls := "CursorRewriter", name := "write", desc := "(C)Z" } : Jvm.MethodName)) ∈ kv_tb := List.mem_filter.mpr ⟨List.mem_append_right _ (List.mem_of_getElem? (i := 314) (by decide +kernel)), rfl⟩
theorem mw_315 : (Cond.selects "CursorRewriter" ({ cls := "CursorRewriter", name := "write", desc := "(C)Z" } : Jvm.MethodName) ({ cls := "CursorRewriter", name := "write", desc := "(C)Z" } : Jvm.MethodName)) ∈ kv_tb := List.mem_filter.mpr ⟨List.mem_append_right _ (List.mem_of_getElem? (i := 315) (by decide +kernel)), rfl⟩
theorem mw_316 : (Cond.code ({ cls := "CursorRewriter", name := "write", desc := "(C)Z" } : Jvm.MethodName) prog_1_method_6_code (2 : Nat) (Option.some Jvm.ClassFile.FieldType.boolean)) ∈ kv_tb := List.mem_filter.mpr ⟨List.mem_append_right _ (List.mem_of_getElem? (i := 316) (by decide +kernel)), rfl⟩
theorem mw_317 : (Cond.methodLink "CursorRewriter" (76 : Nat) ({ cls := "CursorRewriter", name := "isSmall", desc := "(C)Z" } : Jvm.MethodName)) ∈ kv_tb := List.mem_filter.mpr ⟨List.mem_append_right _ (List.mem_of_getElem? (i := 317) (by decide +kernel)), rfl⟩
theorem mw_318 : (Cond.methodLink "CursorRewriter" (79 : Nat) ({ cls := "CursorRewriter$Text", name := "append", desc := "(C)Z" } : Jvm.MethodName)) ∈ kv_tb := List.mem_filter.mpr ⟨List.mem_append_right _ (List.mem_of_getElem? (i := 318) (by decide +kernel)), rfl⟩
theorem mw_319 : (Cond.instanceMethod ({ cls := "CursorRewriter$Text", name := "append", desc := "(C)Z" } : Jvm.MethodName)) ∈ kv_tb := List.mem_filter.mpr ⟨List.mem_append_right _ (List.mem_of_getElem? (i := 319) (by decide +kernel)), rfl⟩
theorem mw_320 : (Cond.selects "CursorRewriter$Text" ({ cls := "CursorRewriter$Text", name := "append", desc := "(C)Z" } : Jvm.MethodName) ({ cls := "CursorRewriter$Text", name := "append", desc := "(C)Z" } : Jvm.MethodName)) ∈ kv_tb := List.mem_filter.mpr ⟨List.mem_append_right _ (List.mem_of_getElem? (i := 320) (by decide +kernel)), rfl⟩
theorem mw_321 : (Cond.code ({ cls := "CursorRewriter$Text", name := "append", desc := "(C)Z" } : Jvm.MethodName) prog_5_method_3_code (2 : Nat) (Option.some Jvm.ClassFile.FieldType.boolean)) ∈ kv_tb := List.mem_filter.mpr ⟨List.mem_append_right _ (List.mem_of_getElem? (i := 321) (by decide +kernel)), rfl⟩
theorem mw_322 : (Cond.methodLink "CursorRewriterLaw" (36 : Nat) ({ cls := "CursorRewriter", name := "settle", desc := "()I" } : Jvm.MethodName)) ∈ kv_tb := List.mem_filter.mpr ⟨List.mem_append_right _ (List.mem_of_getElem? (i := 322) (by decide +kernel)), rfl⟩
theorem mw_323 : (Cond.instanceMethod ({ cls := "CursorRewriter", name := "settle", desc := "()I" } : Jvm.MethodName)) ∈ kv_tb := List.mem_filter.mpr ⟨List.mem_append_right _ (List.mem_of_getElem? (i := 323) (by decide +kernel)), rfl⟩
theorem mw_324 : (Cond.selects "CursorRewriter" ({ cls := "CursorRewriter", name := "settle", desc := "()I" } : Jvm.MethodName) ({ cls := "CursorRewriter", name := "settle", desc := "()I" } : Jvm.MethodName)) ∈ kv_tb := List.mem_filter.mpr ⟨List.mem_append_right _ (List.mem_of_getElem? (i := 324) (by decide +kernel)), rfl⟩
theorem mw_325 : (Cond.code ({ cls := "CursorRewriter", name := "settle", desc := "()I" } : Jvm.MethodName) prog_1_method_7_code (1 : Nat) (Option.some Jvm.ClassFile.FieldType.int)) ∈ kv_tb := List.mem_filter.mpr ⟨List.mem_append_right _ (List.mem_of_getElem? (i := 325) (by decide +kernel)), rfl⟩
theorem mw_326 : (Cond.methodLink "CursorRewriter" (82 : Nat) ({ cls := "CursorRewriter", name := "rewrite", desc := "(Z)I" } : Jvm.MethodName)) ∈ kv_tb := List.mem_filter.mpr ⟨List.mem_append_right _ (List.mem_of_getElem? (i := 326) (by decide +kernel)), rfl⟩
theorem mw_328 : (Cond.instanceMethod ({ cls := "CursorRewriter", name := "rewrite", desc := "(Z)I" } : Jvm.MethodName)) ∈ kv_tb := List.mem_filter.mpr ⟨List.mem_append_right _ (List.mem_of_getElem? (i := 328) (by decide +kernel)), rfl⟩
theorem mw_329 : (Cond.code ({ cls := "CursorRewriter", name := "rewrite", desc := "(Z)I" } : Jvm.MethodName) prog_1_method_19_code (5 : Nat) (Option.some Jvm.ClassFile.FieldType.int)) ∈ kv_tb := List.mem_filter.mpr ⟨List.mem_append_right _ (List.mem_of_getElem? (i := 329) (by decide +kernel)), rfl⟩
theorem mw_330 : (Cond.methodLink "CursorRewriter" (129 : Nat) ({ cls := "CursorRewriter", name := "doAtCursor", desc := "(Z)Z" } : Jvm.MethodName)) ∈ kv_tb := List.mem_filter.mpr ⟨List.mem_append_right _ (List.mem_of_getElem? (i := 330) (by decide +kernel)), rfl⟩
theorem mw_332 : (Cond.instanceMethod ({ cls := "CursorRewriter", name := "doAtCursor", desc := "(Z)Z" } : Jvm.MethodName)) ∈ kv_tb := List.mem_filter.mpr ⟨List.mem_append_right _ (List.mem_of_getElem? (i := 332) (by decide +kernel)), rfl⟩
theorem mw_333 : (Cond.code ({ cls := "CursorRewriter", name := "doAtCursor", desc := "(Z)Z" } : Jvm.MethodName) prog_1_method_20_code (4 : Nat) (Option.some Jvm.ClassFile.FieldType.boolean)) ∈ kv_tb := List.mem_filter.mpr ⟨List.mem_append_right _ (List.mem_of_getElem? (i := 333) (by decide +kernel)), rfl⟩
theorem mw_334 : (Cond.methodLink "CursorRewriter" (96 : Nat) ({ cls := "CursorRewriter$Match", name := "run", desc := "(LCursorRewriter$Rule;LCursorRewriter$Text;Z)I" } : Jvm.MethodName)) ∈ kv_tb := List.mem_filter.mpr ⟨List.mem_append_right _ (List.mem_of_getElem? (i := 334) (by decide +kernel)), rfl⟩
theorem mw_335 : (Cond.instanceMethod ({ cls := "CursorRewriter$Match", name := "run", desc := "(LCursorRewriter$Rule;LCursorRewriter$Text;Z)I" } : Jvm.MethodName)) ∈ kv_tb := List.mem_filter.mpr ⟨List.mem_append_right _ (List.mem_of_getElem? (i := 335) (by decide +kernel)), rfl⟩
theorem mw_336 : (Cond.selects "CursorRewriter$Match" ({ cls := "CursorRewriter$Match", name := "run", desc := "(LCursorRewriter$Rule;LCursorRewriter$Text;Z)I" } : Jvm.MethodName) ({ cls := "CursorRewriter$Match", name := "run", desc := "(LCursorRewriter$Rule;LCursorRewriter$Text;Z)I" } : Jvm.MethodName)) ∈ kv_tb := List.mem_filter.mpr ⟨List.mem_append_right _ (List.mem_of_getElem? (i := 336) (by decide +kernel)), rfl⟩
theorem mw_337 : (Cond.code ({ cls := "CursorRewriter$Match", name := "run", desc := "(LCursorRewriter$Rule;LCursorRewriter$Text;Z)I" } : Jvm.MethodName) prog_2_method_2_code (5 : Nat) (Option.some Jvm.ClassFile.FieldType.int)) ∈ kv_tb := List.mem_filter.mpr ⟨List.mem_append_right _ (List.mem_of_getElem? (i := 337) (by decide +kernel)), rfl⟩
theorem mw_338 : (Cond.methodLink "CursorRewriter$Match" (15 : Nat) ({ cls := "CursorRewriter$Match", name := "takeBefore", desc := "(LCursorRewriter$Rule;LCursorRewriter$Text;)Z" } : Jvm.MethodName)) ∈ kv_tb := List.mem_filter.mpr ⟨List.mem_append_right _ (List.mem_of_getElem? (i := 338) (by decide +kernel)), rfl⟩
theorem mw_340 : (Cond.instanceMethod ({ cls := "CursorRewriter$Match", name := "takeBefore", desc := "(LCursorRewriter$Rule;LCursorRewriter$Text;)Z" } : Jvm.MethodName)) ∈ kv_tb := List.mem_filter.mpr ⟨List.mem_append_right _ (List.mem_of_getElem? (i := 340) (by decide +kernel)), rfl⟩
theorem mw_341 : (Cond.code ({ cls := "CursorRewriter$Match", name := "takeBefore", desc := "(LCursorRewriter$Rule;LCursorRewriter$Text;)Z" } : Jvm.MethodName) prog_2_method_3_code (6 : Nat) (Option.some Jvm.ClassFile.FieldType.boolean)) ∈ kv_tb := List.mem_filter.mpr ⟨List.mem_append_right _ (List.mem_of_getElem? (i := 341) (by decide +kernel)), rfl⟩
theorem mw_342 : (Cond.methodLink "CursorRewriter$Match" (46 : Nat) ({ cls := "CursorRewriter$Text", name := "isIn", desc := "(II)Z" } : Jvm.MethodName)) ∈ kv_tb := List.mem_filter.mpr ⟨List.mem_append_right _ (List.mem_of_getElem? (i := 342) (by decide +kernel)), rfl⟩
theorem mw_343 : (Cond.instanceMethod ({ cls := "CursorRewriter$Text", name := "isIn", desc := "(II)Z" } : Jvm.MethodName)) ∈ kv_tb := List.mem_filter.mpr ⟨List.mem_append_right _ (List.mem_of_getElem? (i := 343) (by decide +kernel)), rfl⟩
theorem mw_344 : (Cond.selects "CursorRewriter$Text" ({ cls := "CursorRewriter$Text", name := "isIn", desc := "(II)Z" } : Jvm.MethodName) ({ cls := "CursorRewriter$Text", name := "isIn", desc := "(II)Z" } : Jvm.MethodName)) ∈ kv_tb := List.mem_filter.mpr ⟨List.mem_append_right _ (List.mem_of_getElem? (i := 344) (by decide +kernel)), rfl⟩
theorem mw_345 : (Cond.code ({ cls := "CursorRewriter$Text", name := "isIn", desc := "(II)Z" } : Jvm.MethodName) prog_5_method_4_code (3 : Nat) (Option.some Jvm.ClassFile.FieldType.boolean)) ∈ kv_tb := List.mem_filter.mpr ⟨List.mem_append_right _ (List.mem_of_getElem? (i := 345) (by decide +kernel)), rfl⟩
theorem mw_346 : (Cond.methodLink "CursorRewriter$Match" (33 : Nat) ({ cls := "CursorRewriter$Match", name := "takeOnward", desc := "(LCursorRewriter$Rule;LCursorRewriter$Text;IIZ)I" } : Jvm.MethodName)) ∈ kv_tb := List.mem_filter.mpr ⟨List.mem_append_right _ (List.mem_of_getElem? (i := 346) (by decide +kernel)), rfl⟩
theorem mw_348 : (Cond.instanceMethod ({ cls := "CursorRewriter$Match", name := "takeOnward", desc := "(LCursorRewriter$Rule;LCursorRewriter$Text;IIZ)I" } : Jvm.MethodName)) ∈ kv_tb := List.mem_filter.mpr ⟨List.mem_append_right _ (List.mem_of_getElem? (i := 348) (by decide +kernel)), rfl⟩
theorem mw_349 : (Cond.code ({ cls := "CursorRewriter$Match", name := "takeOnward", desc := "(LCursorRewriter$Rule;LCursorRewriter$Text;IIZ)I" } : Jvm.MethodName) prog_2_method_4_code (9 : Nat) (Option.some Jvm.ClassFile.FieldType.int)) ∈ kv_tb := List.mem_filter.mpr ⟨List.mem_append_right _ (List.mem_of_getElem? (i := 349) (by decide +kernel)), rfl⟩
theorem mw_350 : (Cond.methodLink "CursorRewriter" (133 : Nat) ({ cls := "CursorRewriter", name := "apply", desc := "(I)Z" } : Jvm.MethodName)) ∈ kv_tb := List.mem_filter.mpr ⟨List.mem_append_right _ (List.mem_of_getElem? (i := 350) (by decide +kernel)), rfl⟩
theorem mw_352 : (Cond.instanceMethod ({ cls := "CursorRewriter", name := "apply", desc := "(I)Z" } : Jvm.MethodName)) ∈ kv_tb := List.mem_filter.mpr ⟨List.mem_append_right _ (List.mem_of_getElem? (i := 352) (by decide +kernel)), rfl⟩
theorem mw_353 : (Cond.code ({ cls := "CursorRewriter", name := "apply", desc := "(I)Z" } : Jvm.MethodName) prog_1_method_21_code (3 : Nat) (Option.some Jvm.ClassFile.FieldType.boolean)) ∈ kv_tb := List.mem_filter.mpr ⟨List.mem_append_right _ (List.mem_of_getElem? (i := 353) (by decide +kernel)), rfl⟩
theorem mw_354 : (Cond.methodLink "CursorRewriter" (137 : Nat) ({ cls := "CursorRewriter$Text", name := "sizeAfter", desc := "(LCursorRewriter$Rule;LCursorRewriter$Match;)I" } : Jvm.MethodName)) ∈ kv_tb := List.mem_filter.mpr ⟨List.mem_append_right _ (List.mem_of_getElem? (i := 354) (by decide +kernel)), rfl⟩
theorem mw_355 : (Cond.instanceMethod ({ cls := "CursorRewriter$Text", name := "sizeAfter", desc := "(LCursorRewriter$Rule;LCursorRewriter$Match;)I" } : Jvm.MethodName)) ∈ kv_tb := List.mem_filter.mpr ⟨List.mem_append_right _ (List.mem_of_getElem? (i := 355) (by decide +kernel)), rfl⟩
theorem mw_356 : (Cond.selects "CursorRewriter$Text" ({ cls := "CursorRewriter$Text", name := "sizeAfter", desc := "(LCursorRewriter$Rule;LCursorRewriter$Match;)I" } : Jvm.MethodName) ({ cls := "CursorRewriter$Text", name := "sizeAfter", desc := "(LCursorRewriter$Rule;LCursorRewriter$Match;)I" } : Jvm.MethodName)) ∈ kv_tb := List.mem_filter.mpr ⟨List.mem_append_right _ (List.mem_of_getElem? (i := 356) (by decide +kernel)), rfl⟩
theorem mw_357 : (Cond.code ({ cls := "CursorRewriter$Text", name := "sizeAfter", desc := "(LCursorRewriter$Rule;LCursorRewriter$Match;)I" } : Jvm.MethodName) prog_5_method_5_code (4 : Nat) (Option.some Jvm.ClassFile.FieldType.int)) ∈ kv_tb := List.mem_filter.mpr ⟨List.mem_append_right _ (List.mem_of_getElem? (i := 357) (by decide +kernel)), rfl⟩
theorem mw_358 : (Cond.methodLink "CursorRewriter$Text" (39 : Nat) ({ cls := "CursorRewriter$Text", name := "widthOf", desc := "(LCursorRewriter$Rule;LCursorRewriter$Match;I)I" } : Jvm.MethodName)) ∈ kv_tb := List.mem_filter.mpr ⟨List.mem_append_right _ (List.mem_of_getElem? (i := 358) (by decide +kernel)), rfl⟩
theorem mw_359 : (Cond.static ({ cls := "CursorRewriter$Text", name := "widthOf", desc := "(LCursorRewriter$Rule;LCursorRewriter$Match;I)I" } : Jvm.MethodName)) ∈ kv_tb := List.mem_filter.mpr ⟨List.mem_append_right _ (List.mem_of_getElem? (i := 359) (by decide +kernel)), rfl⟩
theorem mw_360 : (Cond.code ({ cls := "CursorRewriter$Text", name := "widthOf", desc := "(LCursorRewriter$Rule;LCursorRewriter$Match;I)I" } : Jvm.MethodName) prog_5_method_8_code (6 : Nat) (Option.some Jvm.ClassFile.FieldType.int)) ∈ kv_tb := List.mem_filter.mpr ⟨List.mem_append_right _ (List.mem_of_getElem? (i := 360) (by decide +kernel)), rfl⟩
theorem mw_361 : (Cond.methodLinkNest "CursorRewriter$Text" (59 : Nat) ({ cls := "CursorRewriter", name := "isSmall", desc := "(C)Z" } : Jvm.MethodName) "CursorRewriter") ∈ kv_nl := List.mem_filter.mpr ⟨List.mem_of_getElem? (i := 361) (by decide +kernel), rfl⟩
theorem mw_362 : (Cond.methodLink "CursorRewriter$Text" (63 : Nat) ({ cls := "CursorRewriter$Match", name := "segmentWidth", desc := "(LCursorRewriter$Rule;C)I" } : Jvm.MethodName)) ∈ kv_tb := List.mem_filter.mpr ⟨List.mem_append_right _ (List.mem_of_getElem? (i := 362) (by decide +kernel)), rfl⟩
theorem mw_363 : (Cond.instanceMethod ({ cls := "CursorRewriter$Match", name := "segmentWidth", desc := "(LCursorRewriter$Rule;C)I" } : Jvm.MethodName)) ∈ kv_tb := List.mem_filter.mpr ⟨List.mem_append_right _ (List.mem_of_getElem? (i := 363) (by decide +kernel)), rfl⟩
theorem mw_364 : (Cond.selects "CursorRewriter$Match" ({ cls := "CursorRewriter$Match", name := "segmentWidth", desc := "(LCursorRewriter$Rule;C)I" } : Jvm.MethodName) ({ cls := "CursorRewriter$Match", name := "segmentWidth", desc := "(LCursorRewriter$Rule;C)I" } : Jvm.MethodName)) ∈ kv_tb := List.mem_filter.mpr ⟨List.mem_append_right _ (List.mem_of_getElem? (i := 364) (by decide +kernel)), rfl⟩
theorem mw_365 : (Cond.code ({ cls := "CursorRewriter$Match", name := "segmentWidth", desc := "(LCursorRewriter$Rule;C)I" } : Jvm.MethodName) prog_2_method_6_code (4 : Nat) (Option.some Jvm.ClassFile.FieldType.int)) ∈ kv_tb := List.mem_filter.mpr ⟨List.mem_append_right _ (List.mem_of_getElem? (i := 365) (by decide +kernel)), rfl⟩
theorem mw_366 : (Cond.methodLink "CursorRewriter" (141 : Nat) ({ cls := "CursorRewriter$Text", name := "replace", desc := "(LCursorRewriter$Rule;LCursorRewriter$Match;)V" } : Jvm.MethodName)) ∈ kv_tb := List.mem_filter.mpr ⟨List.mem_append_right _ (List.mem_of_getElem? (i := 366) (by decide +kernel)), rfl⟩
theorem mw_367 : (Cond.instanceMethod ({ cls := "CursorRewriter$Text", name := "replace", desc := "(LCursorRewriter$Rule;LCursorRewriter$Match;)V" } : Jvm.MethodName)) ∈ kv_tb := List.mem_filter.mpr ⟨List.mem_append_right _ (List.mem_of_getElem? (i := 367) (by decide +kernel)), rfl⟩
theorem mw_368 : (Cond.selects "CursorRewriter$Text" ({ cls := "CursorRewriter$Text", name := "replace", desc := "(LCursorRewriter$Rule;LCursorRewriter$Match;)V" } : Jvm.MethodName) ({ cls := "CursorRewriter$Text", name := "replace", desc := "(LCursorRewriter$Rule;LCursorRewriter$Match;)V" } : Jvm.MethodName)) ∈ kv_tb := List.mem_filter.mpr ⟨List.mem_append_right _ (List.mem_of_getElem? (i := 368) (by decide +kernel)), rfl⟩
theorem mw_369 : (Cond.code ({ cls := "CursorRewriter$Text", name := "replace", desc := "(LCursorRewriter$Rule;LCursorRewriter$Match;)V" } : Jvm.MethodName) prog_5_method_6_code (6 : Nat) (Option.none : Option Jvm.ClassFile.FieldType)) ∈ kv_tb := List.mem_filter.mpr ⟨List.mem_append_right _ (List.mem_of_getElem? (i := 369) (by decide +kernel)), rfl⟩
theorem mw_370 : (Cond.methodLink "CursorRewriter$Text" (43 : Nat) ({ cls := "java/lang/System", name := "arraycopy", desc := "(Ljava/lang/Object;ILjava/lang/Object;II)V" } : Jvm.MethodName)) ∈ kv_tb := List.mem_filter.mpr ⟨List.mem_append_right _ (List.mem_of_getElem? (i := 370) (by decide +kernel)), rfl⟩
theorem mw_371 : (Cond.static ({ cls := "java/lang/System", name := "arraycopy", desc := "(Ljava/lang/Object;ILjava/lang/Object;II)V" } : Jvm.MethodName)) ∈ kv_tb := List.mem_filter.mpr ⟨List.mem_append_right _ (List.mem_of_getElem? (i := 371) (by decide +kernel)), rfl⟩
theorem mw_372 : (Cond.native ({ cls := "java/lang/System", name := "arraycopy", desc := "(Ljava/lang/Object;ILjava/lang/Object;II)V" } : Jvm.MethodName)) ∈ kv_tb := List.mem_filter.mpr ⟨List.mem_append_right _ (List.mem_of_getElem? (i := 372) (by decide +kernel)), rfl⟩
theorem mw_373 : (Cond.methodLink "CursorRewriter$Text" (49 : Nat) ({ cls := "CursorRewriter$Text", name := "putPiece", desc := "(LCursorRewriter$Rule;LCursorRewriter$Match;II)I" } : Jvm.MethodName)) ∈ kv_tb := List.mem_filter.mpr ⟨List.mem_append_right _ (List.mem_of_getElem? (i := 373) (by decide +kernel)), rfl⟩
theorem mw_375 : (Cond.instanceMethod ({ cls := "CursorRewriter$Text", name := "putPiece", desc := "(LCursorRewriter$Rule;LCursorRewriter$Match;II)I" } : Jvm.MethodName)) ∈ kv_tb := List.mem_filter.mpr ⟨List.mem_append_right _ (List.mem_of_getElem? (i := 375) (by decide +kernel)), rfl⟩
theorem mw_376 : (Cond.code ({ cls := "CursorRewriter$Text", name := "putPiece", desc := "(LCursorRewriter$Rule;LCursorRewriter$Match;II)I" } : Jvm.MethodName) prog_5_method_7_code (7 : Nat) (Option.some Jvm.ClassFile.FieldType.int)) ∈ kv_tb := List.mem_filter.mpr ⟨List.mem_append_right _ (List.mem_of_getElem? (i := 376) (by decide +kernel)), rfl⟩
theorem mw_377 : (Cond.methodLink "CursorRewriter$Text" (67 : Nat) ({ cls := "CursorRewriter$Match", name := "segmentBegin", desc := "(LCursorRewriter$Rule;C)I" } : Jvm.MethodName)) ∈ kv_tb := List.mem_filter.mpr ⟨List.mem_append_right _ (List.mem_of_getElem? (i := 377) (by decide +kernel)), rfl⟩
theorem mw_378 : (Cond.instanceMethod ({ cls := "CursorRewriter$Match", name := "segmentBegin", desc := "(LCursorRewriter$Rule;C)I" } : Jvm.MethodName)) ∈ kv_tb := List.mem_filter.mpr ⟨List.mem_append_right _ (List.mem_of_getElem? (i := 378) (by decide +kernel)), rfl⟩
theorem mw_379 : (Cond.selects "CursorRewriter$Match" ({ cls := "CursorRewriter$Match", name := "segmentBegin", desc := "(LCursorRewriter$Rule;C)I" } : Jvm.MethodName) ({ cls := "CursorRewriter$Match", name := "segmentBegin", desc := "(LCursorRewriter$Rule;C)I" } : Jvm.MethodName)) ∈ kv_tb := List.mem_filter.mpr ⟨List.mem_append_right _ (List.mem_of_getElem? (i := 379) (by decide +kernel)), rfl⟩
theorem mw_380 : (Cond.code ({ cls := "CursorRewriter$Match", name := "segmentBegin", desc := "(LCursorRewriter$Rule;C)I" } : Jvm.MethodName) prog_2_method_5_code (3 : Nat) (Option.some Jvm.ClassFile.FieldType.int)) ∈ kv_tb := List.mem_filter.mpr ⟨List.mem_append_right _ (List.mem_of_getElem? (i := 380) (by decide +kernel)), rfl⟩
theorem mw_381 : (Cond.methodLink "CursorRewriterLaw" (40 : Nat) ({ cls := "CursorRewriter", name := "finish", desc := "()I" } : Jvm.MethodName)) ∈ kv_tb := List.mem_filter.mpr ⟨List.mem_append_right _ (List.mem_of_getElem? (i := 381) (by decide +kernel)), rfl⟩
theorem mw_382 : (Cond.instanceMethod ({ cls := "CursorRewriter", name := "finish", desc := "()I" } : Jvm.MethodName)) ∈ kv_tb := List.mem_filter.mpr ⟨List.mem_append_right _ (List.mem_of_getElem? (i := 382) (by decide +kernel)), rfl⟩
theorem mw_383 : (Cond.selects "CursorRewriter" ({ cls := "CursorRewriter", name := "finish", desc := "()I" } : Jvm.MethodName) ({ cls := "CursorRewriter", name := "finish", desc := "()I" } : Jvm.MethodName)) ∈ kv_tb := List.mem_filter.mpr ⟨List.mem_append_right _ (List.mem_of_getElem? (i := 383) (by decide +kernel)), rfl⟩
theorem mw_384 : (Cond.code ({ cls := "CursorRewriter", name := "finish", desc := "()I" } : Jvm.MethodName) prog_1_method_8_code (1 : Nat) (Option.some Jvm.ClassFile.FieldType.int)) ∈ kv_tb := List.mem_filter.mpr ⟨List.mem_append_right _ (List.mem_of_getElem? (i := 384) (by decide +kernel)), rfl⟩
theorem mw_385 : (Cond.methodLink "CursorRewriterLaw" (44 : Nat) ({ cls := "CursorRewriter", name := "length", desc := "()I" } : Jvm.MethodName)) ∈ kv_tb := List.mem_filter.mpr ⟨List.mem_append_right _ (List.mem_of_getElem? (i := 385) (by decide +kernel)), rfl⟩
theorem mw_386 : (Cond.instanceMethod ({ cls := "CursorRewriter", name := "length", desc := "()I" } : Jvm.MethodName)) ∈ kv_tb := List.mem_filter.mpr ⟨List.mem_append_right _ (List.mem_of_getElem? (i := 386) (by decide +kernel)), rfl⟩
theorem mw_387 : (Cond.selects "CursorRewriter" ({ cls := "CursorRewriter", name := "length", desc := "()I" } : Jvm.MethodName) ({ cls := "CursorRewriter", name := "length", desc := "()I" } : Jvm.MethodName)) ∈ kv_tb := List.mem_filter.mpr ⟨List.mem_append_right _ (List.mem_of_getElem? (i := 387) (by decide +kernel)), rfl⟩
theorem mw_388 : (Cond.code ({ cls := "CursorRewriter", name := "length", desc := "()I" } : Jvm.MethodName) prog_1_method_9_code (1 : Nat) (Option.some Jvm.ClassFile.FieldType.int)) ∈ kv_tb := List.mem_filter.mpr ⟨List.mem_append_right _ (List.mem_of_getElem? (i := 388) (by decide +kernel)), rfl⟩
theorem mw_389 : (Cond.methodLink "CursorRewriterLaw" (48 : Nat) ({ cls := "CursorRewriter", name := "letter", desc := "(I)I" } : Jvm.MethodName)) ∈ kv_tb := List.mem_filter.mpr ⟨List.mem_append_right _ (List.mem_of_getElem? (i := 389) (by decide +kernel)), rfl⟩
theorem mw_390 : (Cond.instanceMethod ({ cls := "CursorRewriter", name := "letter", desc := "(I)I" } : Jvm.MethodName)) ∈ kv_tb := List.mem_filter.mpr ⟨List.mem_append_right _ (List.mem_of_getElem? (i := 390) (by decide +kernel)), rfl⟩
theorem mw_391 : (Cond.selects "CursorRewriter" ({ cls := "CursorRewriter", name := "letter", desc := "(I)I" } : Jvm.MethodName) ({ cls := "CursorRewriter", name := "letter", desc := "(I)I" } : Jvm.MethodName)) ∈ kv_tb := List.mem_filter.mpr ⟨List.mem_append_right _ (List.mem_of_getElem? (i := 391) (by decide +kernel)), rfl⟩
theorem mw_392 : (Cond.code ({ cls := "CursorRewriter", name := "letter", desc := "(I)I" } : Jvm.MethodName) prog_1_method_10_code (2 : Nat) (Option.some Jvm.ClassFile.FieldType.int)) ∈ kv_tb := List.mem_filter.mpr ⟨List.mem_append_right _ (List.mem_of_getElem? (i := 392) (by decide +kernel)), rfl⟩
theorem mw_393 : (Cond.methodLink "CursorRewriterLaw" (53 : Nat) ({ cls := "CursorRewriter", name := "cursor", desc := "()I" } : Jvm.MethodName)) ∈ kv_tb := List.mem_filter.mpr ⟨List.mem_append_right _ (List.mem_of_getElem? (i := 393) (by decide +kernel)), rfl⟩
theorem mw_394 : (Cond.instanceMethod ({ cls := "CursorRewriter", name := "cursor", desc := "()I" } : Jvm.MethodName)) ∈ kv_tb := List.mem_filter.mpr ⟨List.mem_append_right _ (List.mem_of_getElem? (i := 394) (by decide +kernel)), rfl⟩
theorem mw_395 : (Cond.selects "CursorRewriter" ({ cls := "CursorRewriter", name := "cursor", desc := "()I" } : Jvm.MethodName) ({ cls := "CursorRewriter", name := "cursor", desc := "()I" } : Jvm.MethodName)) ∈ kv_tb := List.mem_filter.mpr ⟨List.mem_append_right _ (List.mem_of_getElem? (i := 395) (by decide +kernel)), rfl⟩
theorem mw_396 : (Cond.code ({ cls := "CursorRewriter", name := "cursor", desc := "()I" } : Jvm.MethodName) prog_1_method_11_code (1 : Nat) (Option.some Jvm.ClassFile.FieldType.int)) ∈ kv_tb := List.mem_filter.mpr ⟨List.mem_append_right _ (List.mem_of_getElem? (i := 396) (by decide +kernel)), rfl⟩
theorem mw_397 : (Cond.methodLink "CursorRewriterLaw" (57 : Nat) ({ cls := "CursorRewriter", name := "applied", desc := "()I" } : Jvm.MethodName)) ∈ kv_tb := List.mem_filter.mpr ⟨List.mem_append_right _ (List.mem_of_getElem? (i := 397) (by decide +kernel)), rfl⟩
theorem mw_398 : (Cond.instanceMethod ({ cls := "CursorRewriter", name := "applied", desc := "()I" } : Jvm.MethodName)) ∈ kv_tb := List.mem_filter.mpr ⟨List.mem_append_right _ (List.mem_of_getElem? (i := 398) (by decide +kernel)), rfl⟩
theorem mw_399 : (Cond.selects "CursorRewriter" ({ cls := "CursorRewriter", name := "applied", desc := "()I" } : Jvm.MethodName) ({ cls := "CursorRewriter", name := "applied", desc := "()I" } : Jvm.MethodName)) ∈ kv_tb := List.mem_filter.mpr ⟨List.mem_append_right _ (List.mem_of_getElem? (i := 399) (by decide +kernel)), rfl⟩
theorem mw_400 : (Cond.code ({ cls := "CursorRewriter", name := "applied", desc := "()I" } : Jvm.MethodName) prog_1_method_12_code (1 : Nat) (Option.some Jvm.ClassFile.FieldType.int)) ∈ kv_tb := List.mem_filter.mpr ⟨List.mem_append_right _ (List.mem_of_getElem? (i := 400) (by decide +kernel)), rfl⟩
theorem mw_401 : (Cond.methodLink "CursorRewriterLaw" (61 : Nat) ({ cls := "CursorRewriter", name := "latest", desc := "()I" } : Jvm.MethodName)) ∈ kv_tb := List.mem_filter.mpr ⟨List.mem_append_right _ (List.mem_of_getElem? (i := 401) (by decide +kernel)), rfl⟩
theorem mw_402 : (Cond.instanceMethod ({ cls := "CursorRewriter", name := "latest", desc := "()I" } : Jvm.MethodName)) ∈ kv_tb := List.mem_filter.mpr ⟨List.mem_append_right _ (List.mem_of_getElem? (i := 402) (by decide +kernel)), rfl⟩
theorem mw_403 : (Cond.selects "CursorRewriter" ({ cls := "CursorRewriter", name := "latest", desc := "()I" } : Jvm.MethodName) ({ cls := "CursorRewriter", name := "latest", desc := "()I" } : Jvm.MethodName)) ∈ kv_tb := List.mem_filter.mpr ⟨List.mem_append_right _ (List.mem_of_getElem? (i := 403) (by decide +kernel)), rfl⟩
theorem mw_404 : (Cond.code ({ cls := "CursorRewriter", name := "latest", desc := "()I" } : Jvm.MethodName) prog_1_method_13_code (1 : Nat) (Option.some Jvm.ClassFile.FieldType.int)) ∈ kv_tb := List.mem_filter.mpr ⟨List.mem_append_right _ (List.mem_of_getElem? (i := 404) (by decide +kernel)), rfl⟩
theorem mw_405 : (Cond.methodLink "CursorRewriterLaw" (65 : Nat) ({ cls := "CursorRewriter", name := "stuck", desc := "()Z" } : Jvm.MethodName)) ∈ kv_tb := List.mem_filter.mpr ⟨List.mem_append_right _ (List.mem_of_getElem? (i := 405) (by decide +kernel)), rfl⟩
theorem mw_406 : (Cond.instanceMethod ({ cls := "CursorRewriter", name := "stuck", desc := "()Z" } : Jvm.MethodName)) ∈ kv_tb := List.mem_filter.mpr ⟨List.mem_append_right _ (List.mem_of_getElem? (i := 406) (by decide +kernel)), rfl⟩
theorem mw_407 : (Cond.selects "CursorRewriter" ({ cls := "CursorRewriter", name := "stuck", desc := "()Z" } : Jvm.MethodName) ({ cls := "CursorRewriter", name := "stuck", desc := "()Z" } : Jvm.MethodName)) ∈ kv_tb := List.mem_filter.mpr ⟨List.mem_append_right _ (List.mem_of_getElem? (i := 407) (by decide +kernel)), rfl⟩
theorem mw_408 : (Cond.code ({ cls := "CursorRewriter", name := "stuck", desc := "()Z" } : Jvm.MethodName) prog_1_method_14_code (1 : Nat) (Option.some Jvm.ClassFile.FieldType.boolean)) ∈ kv_tb := List.mem_filter.mpr ⟨List.mem_append_right _ (List.mem_of_getElem? (i := 408) (by decide +kernel)), rfl⟩
theorem mw_409 : (Cond.methodLink "CursorRewriterLaw" (70 : Nat) ({ cls := "CursorRewriter", name := "probe", desc := "(IZ)I" } : Jvm.MethodName)) ∈ kv_tb := List.mem_filter.mpr ⟨List.mem_append_right _ (List.mem_of_getElem? (i := 409) (by decide +kernel)), rfl⟩
theorem mw_410 : (Cond.instanceMethod ({ cls := "CursorRewriter", name := "probe", desc := "(IZ)I" } : Jvm.MethodName)) ∈ kv_tb := List.mem_filter.mpr ⟨List.mem_append_right _ (List.mem_of_getElem? (i := 410) (by decide +kernel)), rfl⟩
theorem mw_411 : (Cond.selects "CursorRewriter" ({ cls := "CursorRewriter", name := "probe", desc := "(IZ)I" } : Jvm.MethodName) ({ cls := "CursorRewriter", name := "probe", desc := "(IZ)I" } : Jvm.MethodName)) ∈ kv_tb := List.mem_filter.mpr ⟨List.mem_append_right _ (List.mem_of_getElem? (i := 411) (by decide +kernel)), rfl⟩
theorem mw_412 : (Cond.code ({ cls := "CursorRewriter", name := "probe", desc := "(IZ)I" } : Jvm.MethodName) prog_1_method_15_code (3 : Nat) (Option.some Jvm.ClassFile.FieldType.int)) ∈ kv_tb := List.mem_filter.mpr ⟨List.mem_append_right _ (List.mem_of_getElem? (i := 412) (by decide +kernel)), rfl⟩
theorem mw_413 : (Cond.classLink "CursorRewriterLaw" (10 : Nat) "CursorRewriterModel") ∈ kv_tb := List.mem_filter.mpr ⟨List.mem_append_right _ (List.mem_of_getElem? (i := 413) (by decide +kernel)), rfl⟩
theorem mw_414 : (Cond.instantiable "CursorRewriterModel" (32 : Nat)) ∈ kv_tb := List.mem_filter.mpr ⟨List.mem_append_right _ (List.mem_of_getElem? (i := 414) (by decide +kernel)), rfl⟩
theorem mw_415 : (Cond.methodLink "CursorRewriterLaw" (12 : Nat) ({ cls := "CursorRewriterModel", name := "<init>", desc := "()V" } : Jvm.MethodName)) ∈ kv_tb := List.mem_filter.mpr ⟨List.mem_append_right _ (List.mem_of_getElem? (i := 415) (by decide +kernel)), rfl⟩
theorem mw_416 : (Cond.instanceMethod ({ cls := "CursorRewriterModel", name := "<init>", desc := "()V" } : Jvm.MethodName)) ∈ kv_tb := List.mem_filter.mpr ⟨List.mem_append_right _ (List.mem_of_getElem? (i := 416) (by decide +kernel)), rfl⟩
theorem mw_417 : (Cond.code ({ cls := "CursorRewriterModel", name := "<init>", desc := "()V" } : Jvm.MethodName) prog_7_method_1_code (2 : Nat) (Option.none : Option Jvm.ClassFile.FieldType)) ∈ kv_tb := List.mem_filter.mpr ⟨List.mem_append_right _ (List.mem_of_getElem? (i := 417) (by decide +kernel)), rfl⟩
theorem mw_418 : (Cond.methodLink "CursorRewriterModel" (1 : Nat) ({ cls := "java/lang/Object", name := "<init>", desc := "()V" } : Jvm.MethodName)) ∈ kv_tb := List.mem_filter.mpr ⟨List.mem_append_right _ (List.mem_of_getElem? (i := 418) (by decide +kernel)), rfl⟩
theorem mw_419 : (Cond.fieldLink "CursorRewriterModel" (74 : Nat) "CursorRewriterModel" "typed" "I") ∈ kv_tb := List.mem_filter.mpr ⟨List.mem_append_right _ (List.mem_of_getElem? (i := 419) (by decide +kernel)), rfl⟩
theorem mw_420 : (Cond.fieldLink "CursorRewriterModel" (7 : Nat) "CursorRewriterModel" "sign" "[I") ∈ kv_tb := List.mem_filter.mpr ⟨List.mem_append_right _ (List.mem_of_getElem? (i := 420) (by decide +kernel)), rfl⟩
theorem mw_421 : (Cond.fieldLink "CursorRewriterModel" (13 : Nat) "CursorRewriterModel" "meaning" "[I") ∈ kv_tb := List.mem_filter.mpr ⟨List.mem_append_right _ (List.mem_of_getElem? (i := 421) (by decide +kernel)), rfl⟩
theorem mw_422 : (Cond.fieldLink "CursorRewriterModel" (99 : Nat) "CursorRewriterModel" "elements" "I") ∈ kv_tb := List.mem_filter.mpr ⟨List.mem_append_right _ (List.mem_of_getElem? (i := 422) (by decide +kernel)), rfl⟩
theorem mw_423 : (Cond.fieldLink "CursorRewriterModel" (16 : Nat) "CursorRewriterModel" "set" "[I") ∈ kv_tb := List.mem_filter.mpr ⟨List.mem_append_right _ (List.mem_of_getElem? (i := 423) (by decide +kernel)), rfl⟩
theorem mw_424 : (Cond.fieldLink "CursorRewriterModel" (19 : Nat) "CursorRewriterModel" "least" "[I") ∈ kv_tb := List.mem_filter.mpr ⟨List.mem_append_right _ (List.mem_of_getElem? (i := 424) (by decide +kernel)), rfl⟩
theorem mw_425 : (Cond.fieldLink "CursorRewriterModel" (22 : Nat) "CursorRewriterModel" "most" "[I") ∈ kv_tb := List.mem_filter.mpr ⟨List.mem_append_right _ (List.mem_of_getElem? (i := 425) (by decide +kernel)), rfl⟩
theorem mw_426 : (Cond.fieldLink "CursorRewriterModel" (25 : Nat) "CursorRewriterModel" "segment" "[I") ∈ kv_tb := List.mem_filter.mpr ⟨List.mem_append_right _ (List.mem_of_getElem? (i := 426) (by decide +kernel)), rfl⟩
theorem mw_427 : (Cond.fieldLink "CursorRewriterModel" (102 : Nat) "CursorRewriterModel" "segments" "I") ∈ kv_tb := List.mem_filter.mpr ⟨List.mem_append_right _ (List.mem_of_getElem? (i := 427) (by decide +kernel)), rfl⟩
theorem mw_428 : (Cond.fieldLink "CursorRewriterModel" (92 : Nat) "CursorRewriterModel" "unknown" "Z") ∈ kv_tb := List.mem_filter.mpr ⟨List.mem_append_right _ (List.mem_of_getElem? (i := 428) (by decide +kernel)), rfl⟩
theorem mw_429 : (Cond.fieldLink "CursorRewriterModel" (85 : Nat) "CursorRewriterModel" "next" "I") ∈ kv_tb := List.mem_filter.mpr ⟨List.mem_append_right _ (List.mem_of_getElem? (i := 429) (by decide +kernel)), rfl⟩
theorem mw_430 : (Cond.fieldLink "CursorRewriterModel" (131 : Nat) "CursorRewriterModel" "rules" "I") ∈ kv_tb := List.mem_filter.mpr ⟨List.mem_append_right _ (List.mem_of_getElem? (i := 430) (by decide +kernel)), rfl⟩
theorem mw_431 : (Cond.fieldLink "CursorRewriterModel" (28 : Nat) "CursorRewriterModel" "keyAt" "[I") ∈ kv_tb := List.mem_filter.mpr ⟨List.mem_append_right _ (List.mem_of_getElem? (i := 431) (by decide +kernel)), rfl⟩
theorem mw_432 : (Cond.fieldLink "CursorRewriterModel" (31 : Nat) "CursorRewriterModel" "afterAt" "[I") ∈ kv_tb := List.mem_filter.mpr ⟨List.mem_append_right _ (List.mem_of_getElem? (i := 432) (by decide +kernel)), rfl⟩
theorem mw_433 : (Cond.fieldLink "CursorRewriterModel" (34 : Nat) "CursorRewriterModel" "ends" "[I") ∈ kv_tb := List.mem_filter.mpr ⟨List.mem_append_right _ (List.mem_of_getElem? (i := 433) (by decide +kernel)), rfl⟩
theorem mw_434 : (Cond.fieldLink "CursorRewriterModel" (37 : Nat) "CursorRewriterModel" "sets" "[I") ∈ kv_tb := List.mem_filter.mpr ⟨List.mem_append_right _ (List.mem_of_getElem? (i := 434) (by decide +kernel)), rfl⟩
theorem mw_435 : (Cond.fieldLink "CursorRewriterModel" (40 : Nat) "CursorRewriterModel" "leasts" "[I") ∈ kv_tb := List.mem_filter.mpr ⟨List.mem_append_right _ (List.mem_of_getElem? (i := 435) (by decide +kernel)), rfl⟩
theorem mw_436 : (Cond.fieldLink "CursorRewriterModel" (43 : Nat) "CursorRewriterModel" "mosts" "[I") ∈ kv_tb := List.mem_filter.mpr ⟨List.mem_append_right _ (List.mem_of_getElem? (i := 436) (by decide +kernel)), rfl⟩
theorem mw_437 : (Cond.fieldLink "CursorRewriterModel" (46 : Nat) "CursorRewriterModel" "segs" "[I") ∈ kv_tb := List.mem_filter.mpr ⟨List.mem_append_right _ (List.mem_of_getElem? (i := 437) (by decide +kernel)), rfl⟩
theorem mw_438 : (Cond.fieldLink "CursorRewriterModel" (49 : Nat) "CursorRewriterModel" "sizes" "[I") ∈ kv_tb := List.mem_filter.mpr ⟨List.mem_append_right _ (List.mem_of_getElem? (i := 438) (by decide +kernel)), rfl⟩
theorem mw_439 : (Cond.fieldLink "CursorRewriterModel" (52 : Nat) "CursorRewriterModel" "stops" "[I") ∈ kv_tb := List.mem_filter.mpr ⟨List.mem_append_right _ (List.mem_of_getElem? (i := 439) (by decide +kernel)), rfl⟩
theorem mw_440 : (Cond.fieldLink "CursorRewriterModel" (55 : Nat) "CursorRewriterModel" "gives" "[I") ∈ kv_tb := List.mem_filter.mpr ⟨List.mem_append_right _ (List.mem_of_getElem? (i := 440) (by decide +kernel)), rfl⟩
theorem mw_441 : (Cond.fieldLink "CursorRewriterModel" (150 : Nat) "CursorRewriterModel" "length" "I") ∈ kv_tb := List.mem_filter.mpr ⟨List.mem_append_right _ (List.mem_of_getElem? (i := 441) (by decide +kernel)), rfl⟩
theorem mw_442 : (Cond.fieldLink "CursorRewriterModel" (58 : Nat) "CursorRewriterModel" "text" "[I") ∈ kv_tb := List.mem_filter.mpr ⟨List.mem_append_right _ (List.mem_of_getElem? (i := 442) (by decide +kernel)), rfl⟩
theorem mw_443 : (Cond.fieldLink "CursorRewriterModel" (61 : Nat) "CursorRewriterModel" "fresh" "[I") ∈ kv_tb := List.mem_filter.mpr ⟨List.mem_append_right _ (List.mem_of_getElem? (i := 443) (by decide +kernel)), rfl⟩
theorem mw_444 : (Cond.fieldLink "CursorRewriterModel" (153 : Nat) "CursorRewriterModel" "cursor" "I") ∈ kv_tb := List.mem_filter.mpr ⟨List.mem_append_right _ (List.mem_of_getElem? (i := 444) (by decide +kernel)), rfl⟩
theorem mw_445 : (Cond.fieldLink "CursorRewriterModel" (156 : Nat) "CursorRewriterModel" "applied" "I") ∈ kv_tb := List.mem_filter.mpr ⟨List.mem_append_right _ (List.mem_of_getElem? (i := 445) (by decide +kernel)), rfl⟩
theorem mw_446 : (Cond.fieldLink "CursorRewriterModel" (64 : Nat) "CursorRewriterModel" "latest" "I") ∈ kv_tb := List.mem_filter.mpr ⟨List.mem_append_right _ (List.mem_of_getElem? (i := 446) (by decide +kernel)), rfl⟩
theorem mw_447 : (Cond.fieldLink "CursorRewriterModel" (159 : Nat) "CursorRewriterModel" "stuck" "Z") ∈ kv_tb := List.mem_filter.mpr ⟨List.mem_append_right _ (List.mem_of_getElem? (i := 447) (by decide +kernel)), rfl⟩
theorem mw_448 : (Cond.fieldLink "CursorRewriterModel" (172 : Nat) "CursorRewriterModel" "keyEnd" "I") ∈ kv_tb := List.mem_filter.mpr ⟨List.mem_append_right _ (List.mem_of_getElem? (i := 448) (by decide +kernel)), rfl⟩
theorem mw_449 : (Cond.fieldLink "CursorRewriterModel" (68 : Nat) "CursorRewriterModel" "from" "[I") ∈ kv_tb := List.mem_filter.mpr ⟨List.mem_append_right _ (List.mem_of_getElem? (i := 449) (by decide +kernel)), rfl⟩
theorem mw_450 : (Cond.fieldLink "CursorRewriterModel" (71 : Nat) "CursorRewriterModel" "to" "[I") ∈ kv_tb := List.mem_filter.mpr ⟨List.mem_append_right _ (List.mem_of_getElem? (i := 450) (by decide +kernel)), rfl⟩
theorem mw_516 : (Cond.methodLink "CursorRewriterLaw" (17 : Nat) ({ cls := "CursorRewriterModel", name := "code", desc := "(C)I" } : Jvm.MethodName)) ∈ kv_tb := List.mem_filter.mpr ⟨List.mem_append_right _ (List.mem_of_getElem? (i := 516) (by decide +kernel)), rfl⟩
theorem mw_517 : (Cond.instanceMethod ({ cls := "CursorRewriterModel", name := "code", desc := "(C)I" } : Jvm.MethodName)) ∈ kv_tb := List.mem_filter.mpr ⟨List.mem_append_right _ (List.mem_of_getElem? (i := 517) (by decide +kernel)), rfl⟩
theorem mw_518 : (Cond.selects "CursorRewriterModel" ({ cls := "CursorRewriterModel", name := "code", desc := "(C)I" } : Jvm.MethodName) ({ cls := "CursorRewriterModel", name := "code", desc := "(C)I" } : Jvm.MethodName)) ∈ kv_tb := List.mem_filter.mpr ⟨List.mem_append_right _ (List.mem_of_getElem? (i := 518) (by decide +kernel)), rfl⟩
theorem mw_519 : (Cond.code ({ cls := "CursorRewriterModel", name := "code", desc := "(C)I" } : Jvm.MethodName) prog_7_method_17_code (3 : Nat) (Option.some Jvm.ClassFile.FieldType.int)) ∈ kv_tb := List.mem_filter.mpr ⟨List.mem_append_right _ (List.mem_of_getElem? (i := 519) (by decide +kernel)), rfl⟩
theorem mw_520 : (Cond.methodLink "CursorRewriterModel" (144 : Nat) ({ cls := "CursorRewriterModel", name := "read", desc := "()I" } : Jvm.MethodName)) ∈ kv_tb := List.mem_filter.mpr ⟨List.mem_append_right _ (List.mem_of_getElem? (i := 520) (by decide +kernel)), rfl⟩
theorem mw_522 : (Cond.instanceMethod ({ cls := "CursorRewriterModel", name := "read", desc := "()I" } : Jvm.MethodName)) ∈ kv_tb := List.mem_filter.mpr ⟨List.mem_append_right _ (List.mem_of_getElem? (i := 522) (by decide +kernel)), rfl⟩
theorem mw_523 : (Cond.code ({ cls := "CursorRewriterModel", name := "read", desc := "()I" } : Jvm.MethodName) prog_7_method_13_code (8 : Nat) (Option.some Jvm.ClassFile.FieldType.int)) ∈ kv_tb := List.mem_filter.mpr ⟨List.mem_append_right _ (List.mem_of_getElem? (i := 523) (by decide +kernel)), rfl⟩
theorem mw_524 : (Cond.methodLink "CursorRewriterModel" (89 : Nat) ({ cls := "CursorRewriterModel", name := "capital", desc := "(I)Z" } : Jvm.MethodName)) ∈ kv_tb := List.mem_filter.mpr ⟨List.mem_append_right _ (List.mem_of_getElem? (i := 524) (by decide +kernel)), rfl⟩
theorem mw_525 : (Cond.static ({ cls := "CursorRewriterModel", name := "capital", desc := "(I)Z" } : Jvm.MethodName)) ∈ kv_tb := List.mem_filter.mpr ⟨List.mem_append_right _ (List.mem_of_getElem? (i := 525) (by decide +kernel)), rfl⟩
theorem mw_526 : (Cond.code ({ cls := "CursorRewriterModel", name := "capital", desc := "(I)Z" } : Jvm.MethodName) prog_7_method_3_code (1 : Nat) (Option.some Jvm.ClassFile.FieldType.boolean)) ∈ kv_tb := List.mem_filter.mpr ⟨List.mem_append_right _ (List.mem_of_getElem? (i := 526) (by decide +kernel)), rfl⟩
theorem mw_527 : (Cond.methodLink "CursorRewriterModel" (116 : Nat) ({ cls := "CursorRewriterModel", name := "define", desc := "()I" } : Jvm.MethodName)) ∈ kv_tb := List.mem_filter.mpr ⟨List.mem_append_right _ (List.mem_of_getElem? (i := 527) (by decide +kernel)), rfl⟩
theorem mw_529 : (Cond.instanceMethod ({ cls := "CursorRewriterModel", name := "define", desc := "()I" } : Jvm.MethodName)) ∈ kv_tb := List.mem_filter.mpr ⟨List.mem_append_right _ (List.mem_of_getElem? (i := 529) (by decide +kernel)), rfl⟩
theorem mw_530 : (Cond.code ({ cls := "CursorRewriterModel", name := "define", desc := "()I" } : Jvm.MethodName) prog_7_method_11_code (2 : Nat) (Option.some Jvm.ClassFile.FieldType.int)) ∈ kv_tb := List.mem_filter.mpr ⟨List.mem_append_right _ (List.mem_of_getElem? (i := 530) (by decide +kernel)), rfl⟩
theorem mw_531 : (Cond.methodLink "CursorRewriterModel" (105 : Nat) ({ cls := "CursorRewriterModel", name := "element", desc := "(II)I" } : Jvm.MethodName)) ∈ kv_tb := List.mem_filter.mpr ⟨List.mem_append_right _ (List.mem_of_getElem? (i := 531) (by decide +kernel)), rfl⟩
theorem mw_533 : (Cond.instanceMethod ({ cls := "CursorRewriterModel", name := "element", desc := "(II)I" } : Jvm.MethodName)) ∈ kv_tb := List.mem_filter.mpr ⟨List.mem_append_right _ (List.mem_of_getElem? (i := 533) (by decide +kernel)), rfl⟩
theorem mw_534 : (Cond.code ({ cls := "CursorRewriterModel", name := "element", desc := "(II)I" } : Jvm.MethodName) prog_7_method_8_code (4 : Nat) (Option.some Jvm.ClassFile.FieldType.int)) ∈ kv_tb := List.mem_filter.mpr ⟨List.mem_append_right _ (List.mem_of_getElem? (i := 534) (by decide +kernel)), rfl⟩
theorem mw_535 : (Cond.methodLink "CursorRewriterModel" (77 : Nat) ({ cls := "CursorRewriterModel", name := "at", desc := "(II)I" } : Jvm.MethodName)) ∈ kv_tb := List.mem_filter.mpr ⟨List.mem_append_right _ (List.mem_of_getElem? (i := 535) (by decide +kernel)), rfl⟩
theorem mw_537 : (Cond.instanceMethod ({ cls := "CursorRewriterModel", name := "at", desc := "(II)I" } : Jvm.MethodName)) ∈ kv_tb := List.mem_filter.mpr ⟨List.mem_append_right _ (List.mem_of_getElem? (i := 537) (by decide +kernel)), rfl⟩
theorem mw_538 : (Cond.code ({ cls := "CursorRewriterModel", name := "at", desc := "(II)I" } : Jvm.MethodName) prog_7_method_6_code (3 : Nat) (Option.some Jvm.ClassFile.FieldType.int)) ∈ kv_tb := List.mem_filter.mpr ⟨List.mem_append_right _ (List.mem_of_getElem? (i := 538) (by decide +kernel)), rfl⟩
theorem mw_539 : (Cond.constant "CursorRewriterModel" (88 : Nat) (67108863 : Int32)) ∈ kv_tb := List.mem_filter.mpr ⟨List.mem_append_right _ (List.mem_of_getElem? (i := 539) (by decide +kernel)), rfl⟩
theorem mw_540 : (Cond.methodLink "CursorRewriterModel" (81 : Nat) ({ cls := "CursorRewriterModel", name := "small", desc := "(I)Z" } : Jvm.MethodName)) ∈ kv_tb := List.mem_filter.mpr ⟨List.mem_append_right _ (List.mem_of_getElem? (i := 540) (by decide +kernel)), rfl⟩
theorem mw_541 : (Cond.static ({ cls := "CursorRewriterModel", name := "small", desc := "(I)Z" } : Jvm.MethodName)) ∈ kv_tb := List.mem_filter.mpr ⟨List.mem_append_right _ (List.mem_of_getElem? (i := 541) (by decide +kernel)), rfl⟩
theorem mw_542 : (Cond.code ({ cls := "CursorRewriterModel", name := "small", desc := "(I)Z" } : Jvm.MethodName) prog_7_method_2_code (1 : Nat) (Option.some Jvm.ClassFile.FieldType.boolean)) ∈ kv_tb := List.mem_filter.mpr ⟨List.mem_append_right _ (List.mem_of_getElem? (i := 542) (by decide +kernel)), rfl⟩
theorem mw_543 : (Cond.methodLink "CursorRewriterModel" (96 : Nat) ({ cls := "CursorRewriterModel", name := "brackets", desc := "(II)I" } : Jvm.MethodName)) ∈ kv_tb := List.mem_filter.mpr ⟨List.mem_append_right _ (List.mem_of_getElem? (i := 543) (by decide +kernel)), rfl⟩
theorem mw_545 : (Cond.instanceMethod ({ cls := "CursorRewriterModel", name := "brackets", desc := "(II)I" } : Jvm.MethodName)) ∈ kv_tb := List.mem_filter.mpr ⟨List.mem_append_right _ (List.mem_of_getElem? (i := 545) (by decide +kernel)), rfl⟩
theorem mw_546 : (Cond.code ({ cls := "CursorRewriterModel", name := "brackets", desc := "(II)I" } : Jvm.MethodName) prog_7_method_7_code (10 : Nat) (Option.some Jvm.ClassFile.FieldType.int)) ∈ kv_tb := List.mem_filter.mpr ⟨List.mem_append_right _ (List.mem_of_getElem? (i := 546) (by decide +kernel)), rfl⟩
theorem mw_547 : (Cond.methodLink "CursorRewriterModel" (120 : Nat) ({ cls := "CursorRewriterModel", name := "place", desc := "(I)I" } : Jvm.MethodName)) ∈ kv_tb := List.mem_filter.mpr ⟨List.mem_append_right _ (List.mem_of_getElem? (i := 547) (by decide +kernel)), rfl⟩
theorem mw_549 : (Cond.instanceMethod ({ cls := "CursorRewriterModel", name := "place", desc := "(I)I" } : Jvm.MethodName)) ∈ kv_tb := List.mem_filter.mpr ⟨List.mem_append_right _ (List.mem_of_getElem? (i := 549) (by decide +kernel)), rfl⟩
theorem mw_550 : (Cond.code ({ cls := "CursorRewriterModel", name := "place", desc := "(I)I" } : Jvm.MethodName) prog_7_method_5_code (3 : Nat) (Option.some Jvm.ClassFile.FieldType.int)) ∈ kv_tb := List.mem_filter.mpr ⟨List.mem_append_right _ (List.mem_of_getElem? (i := 550) (by decide +kernel)), rfl⟩
theorem mw_551 : (Cond.methodLink "CursorRewriterModel" (124 : Nat) ({ cls := "CursorRewriterModel", name := "replacement", desc := "(I)Z" } : Jvm.MethodName)) ∈ kv_tb := List.mem_filter.mpr ⟨List.mem_append_right _ (List.mem_of_getElem? (i := 551) (by decide +kernel)), rfl⟩
theorem mw_553 : (Cond.instanceMethod ({ cls := "CursorRewriterModel", name := "replacement", desc := "(I)Z" } : Jvm.MethodName)) ∈ kv_tb := List.mem_filter.mpr ⟨List.mem_append_right _ (List.mem_of_getElem? (i := 553) (by decide +kernel)), rfl⟩
theorem mw_554 : (Cond.code ({ cls := "CursorRewriterModel", name := "replacement", desc := "(I)Z" } : Jvm.MethodName) prog_7_method_12_code (4 : Nat) (Option.some Jvm.ClassFile.FieldType.boolean)) ∈ kv_tb := List.mem_filter.mpr ⟨List.mem_append_right _ (List.mem_of_getElem? (i := 554) (by decide +kernel)), rfl⟩
theorem mw_555 : (Cond.methodLink "CursorRewriterModel" (112 : Nat) ({ cls := "CursorRewriterModel", name := "count", desc := "(III)I" } : Jvm.MethodName)) ∈ kv_tb := List.mem_filter.mpr ⟨List.mem_append_right _ (List.mem_of_getElem? (i := 555) (by decide +kernel)), rfl⟩
theorem mw_557 : (Cond.instanceMethod ({ cls := "CursorRewriterModel", name := "count", desc := "(III)I" } : Jvm.MethodName)) ∈ kv_tb := List.mem_filter.mpr ⟨List.mem_append_right _ (List.mem_of_getElem? (i := 557) (by decide +kernel)), rfl⟩
theorem mw_558 : (Cond.code ({ cls := "CursorRewriterModel", name := "count", desc := "(III)I" } : Jvm.MethodName) prog_7_method_4_code (6 : Nat) (Option.some Jvm.ClassFile.FieldType.int)) ∈ kv_tb := List.mem_filter.mpr ⟨List.mem_append_right _ (List.mem_of_getElem? (i := 558) (by decide +kernel)), rfl⟩
theorem mw_559 : (Cond.methodLink "CursorRewriterModel" (127 : Nat) ({ cls := "CursorRewriterModel", name := "row", desc := "(IIZ)Z" } : Jvm.MethodName)) ∈ kv_tb := List.mem_filter.mpr ⟨List.mem_append_right _ (List.mem_of_getElem? (i := 559) (by decide +kernel)), rfl⟩
theorem mw_561 : (Cond.instanceMethod ({ cls := "CursorRewriterModel", name := "row", desc := "(IIZ)Z" } : Jvm.MethodName)) ∈ kv_tb := List.mem_filter.mpr ⟨List.mem_append_right _ (List.mem_of_getElem? (i := 561) (by decide +kernel)), rfl⟩
theorem mw_562 : (Cond.code ({ cls := "CursorRewriterModel", name := "row", desc := "(IIZ)Z" } : Jvm.MethodName) prog_7_method_10_code (11 : Nat) (Option.some Jvm.ClassFile.FieldType.boolean)) ∈ kv_tb := List.mem_filter.mpr ⟨List.mem_append_right _ (List.mem_of_getElem? (i := 562) (by decide +kernel)), rfl⟩
theorem mw_563 : (Cond.methodLink "CursorRewriterModel" (108 : Nat) ({ cls := "CursorRewriterModel", name := "add", desc := "(III)Z" } : Jvm.MethodName)) ∈ kv_tb := List.mem_filter.mpr ⟨List.mem_append_right _ (List.mem_of_getElem? (i := 563) (by decide +kernel)), rfl⟩
theorem mw_565 : (Cond.instanceMethod ({ cls := "CursorRewriterModel", name := "add", desc := "(III)Z" } : Jvm.MethodName)) ∈ kv_tb := List.mem_filter.mpr ⟨List.mem_append_right _ (List.mem_of_getElem? (i := 565) (by decide +kernel)), rfl⟩
theorem mw_566 : (Cond.code ({ cls := "CursorRewriterModel", name := "add", desc := "(III)Z" } : Jvm.MethodName) prog_7_method_9_code (4 : Nat) (Option.some Jvm.ClassFile.FieldType.boolean)) ∈ kv_tb := List.mem_filter.mpr ⟨List.mem_append_right _ (List.mem_of_getElem? (i := 566) (by decide +kernel)), rfl⟩
theorem mw_567 : (Cond.methodLink "CursorRewriterModel" (134 : Nat) ({ cls := "CursorRewriterModel", name := "enter", desc := "(III)I" } : Jvm.MethodName)) ∈ kv_tb := List.mem_filter.mpr ⟨List.mem_append_right _ (List.mem_of_getElem? (i := 567) (by decide +kernel)), rfl⟩
theorem mw_569 : (Cond.instanceMethod ({ cls := "CursorRewriterModel", name := "enter", desc := "(III)I" } : Jvm.MethodName)) ∈ kv_tb := List.mem_filter.mpr ⟨List.mem_append_right _ (List.mem_of_getElem? (i := 569) (by decide +kernel)), rfl⟩
theorem mw_570 : (Cond.code ({ cls := "CursorRewriterModel", name := "enter", desc := "(III)I" } : Jvm.MethodName) prog_7_method_14_code (6 : Nat) (Option.some Jvm.ClassFile.FieldType.int)) ∈ kv_tb := List.mem_filter.mpr ⟨List.mem_append_right _ (List.mem_of_getElem? (i := 570) (by decide +kernel)), rfl⟩
theorem mw_571 : (Cond.methodLink "CursorRewriterModel" (137 : Nat) ({ cls := "CursorRewriterModel", name := "masks", desc := "(II)Z" } : Jvm.MethodName)) ∈ kv_tb := List.mem_filter.mpr ⟨List.mem_append_right _ (List.mem_of_getElem? (i := 571) (by decide +kernel)), rfl⟩
theorem mw_573 : (Cond.instanceMethod ({ cls := "CursorRewriterModel", name := "masks", desc := "(II)Z" } : Jvm.MethodName)) ∈ kv_tb := List.mem_filter.mpr ⟨List.mem_append_right _ (List.mem_of_getElem? (i := 573) (by decide +kernel)), rfl⟩
theorem mw_574 : (Cond.code ({ cls := "CursorRewriterModel", name := "masks", desc := "(II)Z" } : Jvm.MethodName) prog_7_method_16_code (5 : Nat) (Option.some Jvm.ClassFile.FieldType.boolean)) ∈ kv_tb := List.mem_filter.mpr ⟨List.mem_append_right _ (List.mem_of_getElem? (i := 574) (by decide +kernel)), rfl⟩
theorem mw_575 : (Cond.methodLink "CursorRewriterModel" (141 : Nat) ({ cls := "CursorRewriterModel", name := "plain", desc := "(I)Z" } : Jvm.MethodName)) ∈ kv_tb := List.mem_filter.mpr ⟨List.mem_append_right _ (List.mem_of_getElem? (i := 575) (by decide +kernel)), rfl⟩
theorem mw_577 : (Cond.instanceMethod ({ cls := "CursorRewriterModel", name := "plain", desc := "(I)Z" } : Jvm.MethodName)) ∈ kv_tb := List.mem_filter.mpr ⟨List.mem_append_right _ (List.mem_of_getElem? (i := 577) (by decide +kernel)), rfl⟩
theorem mw_578 : (Cond.code ({ cls := "CursorRewriterModel", name := "plain", desc := "(I)Z" } : Jvm.MethodName) prog_7_method_15_code (4 : Nat) (Option.some Jvm.ClassFile.FieldType.boolean)) ∈ kv_tb := List.mem_filter.mpr ⟨List.mem_append_right _ (List.mem_of_getElem? (i := 578) (by decide +kernel)), rfl⟩
theorem mw_579 : (Cond.methodLink "CursorRewriterLaw" (22 : Nat) ({ cls := "CursorRewriterModel", name := "rules", desc := "()I" } : Jvm.MethodName)) ∈ kv_tb := List.mem_filter.mpr ⟨List.mem_append_right _ (List.mem_of_getElem? (i := 579) (by decide +kernel)), rfl⟩
theorem mw_580 : (Cond.instanceMethod ({ cls := "CursorRewriterModel", name := "rules", desc := "()I" } : Jvm.MethodName)) ∈ kv_tb := List.mem_filter.mpr ⟨List.mem_append_right _ (List.mem_of_getElem? (i := 580) (by decide +kernel)), rfl⟩
theorem mw_581 : (Cond.selects "CursorRewriterModel" ({ cls := "CursorRewriterModel", name := "rules", desc := "()I" } : Jvm.MethodName) ({ cls := "CursorRewriterModel", name := "rules", desc := "()I" } : Jvm.MethodName)) ∈ kv_tb := List.mem_filter.mpr ⟨List.mem_append_right _ (List.mem_of_getElem? (i := 581) (by decide +kernel)), rfl⟩
theorem mw_582 : (Cond.code ({ cls := "CursorRewriterModel", name := "rules", desc := "()I" } : Jvm.MethodName) prog_7_method_18_code (1 : Nat) (Option.some Jvm.ClassFile.FieldType.int)) ∈ kv_tb := List.mem_filter.mpr ⟨List.mem_append_right _ (List.mem_of_getElem? (i := 582) (by decide +kernel)), rfl⟩
theorem mw_583 : (Cond.methodLink "CursorRewriterLaw" (26 : Nat) ({ cls := "CursorRewriterModel", name := "forget", desc := "()V" } : Jvm.MethodName)) ∈ kv_tb := List.mem_filter.mpr ⟨List.mem_append_right _ (List.mem_of_getElem? (i := 583) (by decide +kernel)), rfl⟩
theorem mw_584 : (Cond.instanceMethod ({ cls := "CursorRewriterModel", name := "forget", desc := "()V" } : Jvm.MethodName)) ∈ kv_tb := List.mem_filter.mpr ⟨List.mem_append_right _ (List.mem_of_getElem? (i := 584) (by decide +kernel)), rfl⟩
theorem mw_585 : (Cond.selects "CursorRewriterModel" ({ cls := "CursorRewriterModel", name := "forget", desc := "()V" } : Jvm.MethodName) ({ cls := "CursorRewriterModel", name := "forget", desc := "()V" } : Jvm.MethodName)) ∈ kv_tb := List.mem_filter.mpr ⟨List.mem_append_right _ (List.mem_of_getElem? (i := 585) (by decide +kernel)), rfl⟩
theorem mw_586 : (Cond.code ({ cls := "CursorRewriterModel", name := "forget", desc := "()V" } : Jvm.MethodName) prog_7_method_19_code (2 : Nat) (Option.none : Option Jvm.ClassFile.FieldType)) ∈ kv_tb := List.mem_filter.mpr ⟨List.mem_append_right _ (List.mem_of_getElem? (i := 586) (by decide +kernel)), rfl⟩
theorem mw_587 : (Cond.methodLink "CursorRewriterModel" (147 : Nat) ({ cls := "CursorRewriterModel", name := "restart", desc := "()V" } : Jvm.MethodName)) ∈ kv_tb := List.mem_filter.mpr ⟨List.mem_append_right _ (List.mem_of_getElem? (i := 587) (by decide +kernel)), rfl⟩
theorem mw_588 : (Cond.instanceMethod ({ cls := "CursorRewriterModel", name := "restart", desc := "()V" } : Jvm.MethodName)) ∈ kv_tb := List.mem_filter.mpr ⟨List.mem_append_right _ (List.mem_of_getElem? (i := 588) (by decide +kernel)), rfl⟩
theorem mw_589 : (Cond.selects "CursorRewriterModel" ({ cls := "CursorRewriterModel", name := "restart", desc := "()V" } : Jvm.MethodName) ({ cls := "CursorRewriterModel", name := "restart", desc := "()V" } : Jvm.MethodName)) ∈ kv_tb := List.mem_filter.mpr ⟨List.mem_append_right _ (List.mem_of_getElem? (i := 589) (by decide +kernel)), rfl⟩
theorem mw_590 : (Cond.code ({ cls := "CursorRewriterModel", name := "restart", desc := "()V" } : Jvm.MethodName) prog_7_method_20_code (1 : Nat) (Option.none : Option Jvm.ClassFile.FieldType)) ∈ kv_tb := List.mem_filter.mpr ⟨List.mem_append_right _ (List.mem_of_getElem? (i := 590) (by decide +kernel)), rfl⟩
theorem mw_591 : (Cond.methodLink "CursorRewriterLaw" (30 : Nat) ({ cls := "CursorRewriterModel", name := "restart", desc := "()V" } : Jvm.MethodName)) ∈ kv_tb := List.mem_filter.mpr ⟨List.mem_append_right _ (List.mem_of_getElem? (i := 591) (by decide +kernel)), rfl⟩
theorem mw_592 : (Cond.methodLink "CursorRewriterLaw" (35 : Nat) ({ cls := "CursorRewriterModel", name := "write", desc := "(C)Z" } : Jvm.MethodName)) ∈ kv_tb := List.mem_filter.mpr ⟨List.mem_append_right _ (List.mem_of_getElem? (i := 592) (by decide +kernel)), rfl⟩
theorem mw_593 : (Cond.instanceMethod ({ cls := "CursorRewriterModel", name := "write", desc := "(C)Z" } : Jvm.MethodName)) ∈ kv_tb := List.mem_filter.mpr ⟨List.mem_append_right _ (List.mem_of_getElem? (i := 593) (by decide +kernel)), rfl⟩
theorem mw_594 : (Cond.selects "CursorRewriterModel" ({ cls := "CursorRewriterModel", name := "write", desc := "(C)Z" } : Jvm.MethodName) ({ cls := "CursorRewriterModel", name := "write", desc := "(C)Z" } : Jvm.MethodName)) ∈ kv_tb := List.mem_filter.mpr ⟨List.mem_append_right _ (List.mem_of_getElem? (i := 594) (by decide +kernel)), rfl⟩
theorem mw_595 : (Cond.code ({ cls := "CursorRewriterModel", name := "write", desc := "(C)Z" } : Jvm.MethodName) prog_7_method_21_code (2 : Nat) (Option.some Jvm.ClassFile.FieldType.boolean)) ∈ kv_tb := List.mem_filter.mpr ⟨List.mem_append_right _ (List.mem_of_getElem? (i := 595) (by decide +kernel)), rfl⟩
theorem mw_596 : (Cond.methodLink "CursorRewriterLaw" (74 : Nat) ({ cls := "CursorRewriterModel", name := "probe", desc := "(IZ)I" } : Jvm.MethodName)) ∈ kv_tb := List.mem_filter.mpr ⟨List.mem_append_right _ (List.mem_of_getElem? (i := 596) (by decide +kernel)), rfl⟩
theorem mw_597 : (Cond.instanceMethod ({ cls := "CursorRewriterModel", name := "probe", desc := "(IZ)I" } : Jvm.MethodName)) ∈ kv_tb := List.mem_filter.mpr ⟨List.mem_append_right _ (List.mem_of_getElem? (i := 597) (by decide +kernel)), rfl⟩
theorem mw_598 : (Cond.selects "CursorRewriterModel" ({ cls := "CursorRewriterModel", name := "probe", desc := "(IZ)I" } : Jvm.MethodName) ({ cls := "CursorRewriterModel", name := "probe", desc := "(IZ)I" } : Jvm.MethodName)) ∈ kv_tb := List.mem_filter.mpr ⟨List.mem_append_right _ (List.mem_of_getElem? (i := 598) (by decide +kernel)), rfl⟩
theorem mw_599 : (Cond.code ({ cls := "CursorRewriterModel", name := "probe", desc := "(IZ)I" } : Jvm.MethodName) prog_7_method_26_code (3 : Nat) (Option.some Jvm.ClassFile.FieldType.int)) ∈ kv_tb := List.mem_filter.mpr ⟨List.mem_append_right _ (List.mem_of_getElem? (i := 599) (by decide +kernel)), rfl⟩
theorem mw_600 : (Cond.methodLink "CursorRewriterModel" (175 : Nat) ({ cls := "CursorRewriterModel", name := "match", desc := "(IZ)I" } : Jvm.MethodName)) ∈ kv_tb := List.mem_filter.mpr ⟨List.mem_append_right _ (List.mem_of_getElem? (i := 600) (by decide +kernel)), rfl⟩
theorem mw_602 : (Cond.instanceMethod ({ cls := "CursorRewriterModel", name := "match", desc := "(IZ)I" } : Jvm.MethodName)) ∈ kv_tb := List.mem_filter.mpr ⟨List.mem_append_right _ (List.mem_of_getElem? (i := 602) (by decide +kernel)), rfl⟩
theorem mw_603 : (Cond.code ({ cls := "CursorRewriterModel", name := "match", desc := "(IZ)I" } : Jvm.MethodName) prog_7_method_25_code (8 : Nat) (Option.some Jvm.ClassFile.FieldType.int)) ∈ kv_tb := List.mem_filter.mpr ⟨List.mem_append_right _ (List.mem_of_getElem? (i := 603) (by decide +kernel)), rfl⟩
theorem mw_604 : (Cond.methodLink "CursorRewriterModel" (169 : Nat) ({ cls := "CursorRewriterModel", name := "before", desc := "(I)Z" } : Jvm.MethodName)) ∈ kv_tb := List.mem_filter.mpr ⟨List.mem_append_right _ (List.mem_of_getElem? (i := 604) (by decide +kernel)), rfl⟩
theorem mw_606 : (Cond.instanceMethod ({ cls := "CursorRewriterModel", name := "before", desc := "(I)Z" } : Jvm.MethodName)) ∈ kv_tb := List.mem_filter.mpr ⟨List.mem_append_right _ (List.mem_of_getElem? (i := 606) (by decide +kernel)), rfl⟩
theorem mw_607 : (Cond.code ({ cls := "CursorRewriterModel", name := "before", desc := "(I)Z" } : Jvm.MethodName) prog_7_method_24_code (5 : Nat) (Option.some Jvm.ClassFile.FieldType.boolean)) ∈ kv_tb := List.mem_filter.mpr ⟨List.mem_append_right _ (List.mem_of_getElem? (i := 607) (by decide +kernel)), rfl⟩
theorem mw_608 : (Cond.methodLink "CursorRewriterModel" (165 : Nat) ({ cls := "CursorRewriterModel", name := "rowOf", desc := "(IIZ)I" } : Jvm.MethodName)) ∈ kv_tb := List.mem_filter.mpr ⟨List.mem_append_right _ (List.mem_of_getElem? (i := 608) (by decide +kernel)), rfl⟩
theorem mw_610 : (Cond.instanceMethod ({ cls := "CursorRewriterModel", name := "rowOf", desc := "(IIZ)I" } : Jvm.MethodName)) ∈ kv_tb := List.mem_filter.mpr ⟨List.mem_append_right _ (List.mem_of_getElem? (i := 610) (by decide +kernel)), rfl⟩
theorem mw_611 : (Cond.code ({ cls := "CursorRewriterModel", name := "rowOf", desc := "(IIZ)I" } : Jvm.MethodName) prog_7_method_23_code (5 : Nat) (Option.some Jvm.ClassFile.FieldType.int)) ∈ kv_tb := List.mem_filter.mpr ⟨List.mem_append_right _ (List.mem_of_getElem? (i := 611) (by decide +kernel)), rfl⟩
theorem mw_612 : (Cond.methodLink "CursorRewriterModel" (162 : Nat) ({ cls := "CursorRewriterModel", name := "standsFor", desc := "(II)Z" } : Jvm.MethodName)) ∈ kv_tb := List.mem_filter.mpr ⟨List.mem_append_right _ (List.mem_of_getElem? (i := 612) (by decide +kernel)), rfl⟩
theorem mw_614 : (Cond.instanceMethod ({ cls := "CursorRewriterModel", name := "standsFor", desc := "(II)Z" } : Jvm.MethodName)) ∈ kv_tb := List.mem_filter.mpr ⟨List.mem_append_right _ (List.mem_of_getElem? (i := 614) (by decide +kernel)), rfl⟩
theorem mw_615 : (Cond.code ({ cls := "CursorRewriterModel", name := "standsFor", desc := "(II)Z" } : Jvm.MethodName) prog_7_method_22_code (3 : Nat) (Option.some Jvm.ClassFile.FieldType.boolean)) ∈ kv_tb := List.mem_filter.mpr ⟨List.mem_append_right _ (List.mem_of_getElem? (i := 615) (by decide +kernel)), rfl⟩
theorem mw_616 : (Cond.methodLink "CursorRewriterLaw" (39 : Nat) ({ cls := "CursorRewriterModel", name := "settle", desc := "()I" } : Jvm.MethodName)) ∈ kv_tb := List.mem_filter.mpr ⟨List.mem_append_right _ (List.mem_of_getElem? (i := 616) (by decide +kernel)), rfl⟩
theorem mw_617 : (Cond.instanceMethod ({ cls := "CursorRewriterModel", name := "settle", desc := "()I" } : Jvm.MethodName)) ∈ kv_tb := List.mem_filter.mpr ⟨List.mem_append_right _ (List.mem_of_getElem? (i := 617) (by decide +kernel)), rfl⟩
theorem mw_618 : (Cond.selects "CursorRewriterModel" ({ cls := "CursorRewriterModel", name := "settle", desc := "()I" } : Jvm.MethodName) ({ cls := "CursorRewriterModel", name := "settle", desc := "()I" } : Jvm.MethodName)) ∈ kv_tb := List.mem_filter.mpr ⟨List.mem_append_right _ (List.mem_of_getElem? (i := 618) (by decide +kernel)), rfl⟩
theorem mw_619 : (Cond.code ({ cls := "CursorRewriterModel", name := "settle", desc := "()I" } : Jvm.MethodName) prog_7_method_30_code (1 : Nat) (Option.some Jvm.ClassFile.FieldType.int)) ∈ kv_tb := List.mem_filter.mpr ⟨List.mem_append_right _ (List.mem_of_getElem? (i := 619) (by decide +kernel)), rfl⟩
theorem mw_620 : (Cond.methodLink "CursorRewriterModel" (185 : Nat) ({ cls := "CursorRewriterModel", name := "work", desc := "(Z)I" } : Jvm.MethodName)) ∈ kv_tb := List.mem_filter.mpr ⟨List.mem_append_right _ (List.mem_of_getElem? (i := 620) (by decide +kernel)), rfl⟩
theorem mw_622 : (Cond.instanceMethod ({ cls := "CursorRewriterModel", name := "work", desc := "(Z)I" } : Jvm.MethodName)) ∈ kv_tb := List.mem_filter.mpr ⟨List.mem_append_right _ (List.mem_of_getElem? (i := 622) (by decide +kernel)), rfl⟩
theorem mw_623 : (Cond.code ({ cls := "CursorRewriterModel", name := "work", desc := "(Z)I" } : Jvm.MethodName) prog_7_method_29_code (5 : Nat) (Option.some Jvm.ClassFile.FieldType.int)) ∈ kv_tb := List.mem_filter.mpr ⟨List.mem_append_right _ (List.mem_of_getElem? (i := 623) (by decide +kernel)), rfl⟩
theorem mw_624 : (Cond.methodLink "CursorRewriterModel" (182 : Nat) ({ cls := "CursorRewriterModel", name := "apply", desc := "(I)Z" } : Jvm.MethodName)) ∈ kv_tb := List.mem_filter.mpr ⟨List.mem_append_right _ (List.mem_of_getElem? (i := 624) (by decide +kernel)), rfl⟩
theorem mw_626 : (Cond.instanceMethod ({ cls := "CursorRewriterModel", name := "apply", desc := "(I)Z" } : Jvm.MethodName)) ∈ kv_tb := List.mem_filter.mpr ⟨List.mem_append_right _ (List.mem_of_getElem? (i := 626) (by decide +kernel)), rfl⟩
theorem mw_627 : (Cond.code ({ cls := "CursorRewriterModel", name := "apply", desc := "(I)Z" } : Jvm.MethodName) prog_7_method_28_code (8 : Nat) (Option.some Jvm.ClassFile.FieldType.boolean)) ∈ kv_tb := List.mem_filter.mpr ⟨List.mem_append_right _ (List.mem_of_getElem? (i := 627) (by decide +kernel)), rfl⟩
theorem mw_628 : (Cond.methodLink "CursorRewriterModel" (179 : Nat) ({ cls := "CursorRewriterModel", name := "given", desc := "(II)I" } : Jvm.MethodName)) ∈ kv_tb := List.mem_filter.mpr ⟨List.mem_append_right _ (List.mem_of_getElem? (i := 628) (by decide +kernel)), rfl⟩
theorem mw_630 : (Cond.instanceMethod ({ cls := "CursorRewriterModel", name := "given", desc := "(II)I" } : Jvm.MethodName)) ∈ kv_tb := List.mem_filter.mpr ⟨List.mem_append_right _ (List.mem_of_getElem? (i := 630) (by decide +kernel)), rfl⟩
theorem mw_631 : (Cond.code ({ cls := "CursorRewriterModel", name := "given", desc := "(II)I" } : Jvm.MethodName) prog_7_method_27_code (4 : Nat) (Option.some Jvm.ClassFile.FieldType.int)) ∈ kv_tb := List.mem_filter.mpr ⟨List.mem_append_right _ (List.mem_of_getElem? (i := 631) (by decide +kernel)), rfl⟩
theorem mw_632 : (Cond.methodLink "CursorRewriterLaw" (43 : Nat) ({ cls := "CursorRewriterModel", name := "finish", desc := "()I" } : Jvm.MethodName)) ∈ kv_tb := List.mem_filter.mpr ⟨List.mem_append_right _ (List.mem_of_getElem? (i := 632) (by decide +kernel)), rfl⟩
theorem mw_633 : (Cond.instanceMethod ({ cls := "CursorRewriterModel", name := "finish", desc := "()I" } : Jvm.MethodName)) ∈ kv_tb := List.mem_filter.mpr ⟨List.mem_append_right _ (List.mem_of_getElem? (i := 633) (by decide +kernel)), rfl⟩
theorem mw_634 : (Cond.selects "CursorRewriterModel" ({ cls := "CursorRewriterModel", name := "finish", desc := "()I" } : Jvm.MethodName) ({ cls := "CursorRewriterModel", name := "finish", desc := "()I" } : Jvm.MethodName)) ∈ kv_tb := List.mem_filter.mpr ⟨List.mem_append_right _ (List.mem_of_getElem? (i := 634) (by decide +kernel)), rfl⟩
theorem mw_635 : (Cond.code ({ cls := "CursorRewriterModel", name := "finish", desc := "()I" } : Jvm.MethodName) prog_7_method_31_code (1 : Nat) (Option.some Jvm.ClassFile.FieldType.int)) ∈ kv_tb := List.mem_filter.mpr ⟨List.mem_append_right _ (List.mem_of_getElem? (i := 635) (by decide +kernel)), rfl⟩
theorem mw_636 : (Cond.methodLink "CursorRewriterLaw" (47 : Nat) ({ cls := "CursorRewriterModel", name := "length", desc := "()I" } : Jvm.MethodName)) ∈ kv_tb := List.mem_filter.mpr ⟨List.mem_append_right _ (List.mem_of_getElem? (i := 636) (by decide +kernel)), rfl⟩
theorem mw_637 : (Cond.instanceMethod ({ cls := "CursorRewriterModel", name := "length", desc := "()I" } : Jvm.MethodName)) ∈ kv_tb := List.mem_filter.mpr ⟨List.mem_append_right _ (List.mem_of_getElem? (i := 637) (by decide +kernel)), rfl⟩
theorem mw_638 : (Cond.selects "CursorRewriterModel" ({ cls := "CursorRewriterModel", name := "length", desc := "()I" } : Jvm.MethodName) ({ cls := "CursorRewriterModel", name := "length", desc := "()I" } : Jvm.MethodName)) ∈ kv_tb := List.mem_filter.mpr ⟨List.mem_append_right _ (List.mem_of_getElem? (i := 638) (by decide +kernel)), rfl⟩
theorem mw_639 : (Cond.code ({ cls := "CursorRewriterModel", name := "length", desc := "()I" } : Jvm.MethodName) prog_7_method_32_code (1 : Nat) (Option.some Jvm.ClassFile.FieldType.int)) ∈ kv_tb := List.mem_filter.mpr ⟨List.mem_append_right _ (List.mem_of_getElem? (i := 639) (by decide +kernel)), rfl⟩
theorem mw_640 : (Cond.methodLink "CursorRewriterLaw" (52 : Nat) ({ cls := "CursorRewriterModel", name := "letter", desc := "(I)I" } : Jvm.MethodName)) ∈ kv_tb := List.mem_filter.mpr ⟨List.mem_append_right _ (List.mem_of_getElem? (i := 640) (by decide +kernel)), rfl⟩
theorem mw_641 : (Cond.instanceMethod ({ cls := "CursorRewriterModel", name := "letter", desc := "(I)I" } : Jvm.MethodName)) ∈ kv_tb := List.mem_filter.mpr ⟨List.mem_append_right _ (List.mem_of_getElem? (i := 641) (by decide +kernel)), rfl⟩
theorem mw_642 : (Cond.selects "CursorRewriterModel" ({ cls := "CursorRewriterModel", name := "letter", desc := "(I)I" } : Jvm.MethodName) ({ cls := "CursorRewriterModel", name := "letter", desc := "(I)I" } : Jvm.MethodName)) ∈ kv_tb := List.mem_filter.mpr ⟨List.mem_append_right _ (List.mem_of_getElem? (i := 642) (by decide +kernel)), rfl⟩
theorem mw_643 : (Cond.code ({ cls := "CursorRewriterModel", name := "letter", desc := "(I)I" } : Jvm.MethodName) prog_7_method_33_code (2 : Nat) (Option.some Jvm.ClassFile.FieldType.int)) ∈ kv_tb := List.mem_filter.mpr ⟨List.mem_append_right _ (List.mem_of_getElem? (i := 643) (by decide +kernel)), rfl⟩
theorem mw_644 : (Cond.methodLink "CursorRewriterLaw" (56 : Nat) ({ cls := "CursorRewriterModel", name := "cursor", desc := "()I" } : Jvm.MethodName)) ∈ kv_tb := List.mem_filter.mpr ⟨List.mem_append_right _ (List.mem_of_getElem? (i := 644) (by decide +kernel)), rfl⟩
theorem mw_645 : (Cond.instanceMethod ({ cls := "CursorRewriterModel", name := "cursor", desc := "()I" } : Jvm.MethodName)) ∈ kv_tb := List.mem_filter.mpr ⟨List.mem_append_right _ (List.mem_of_getElem? (i := 645) (by decide +kernel)), rfl⟩
theorem mw_646 : (Cond.selects "CursorRewriterModel" ({ cls := "CursorRewriterModel", name := "cursor", desc := "()I" } : Jvm.MethodName) ({ cls := "CursorRewriterModel", name := "cursor", desc := "()I" } : Jvm.MethodName)) ∈ kv_tb := List.mem_filter.mpr ⟨List.mem_append_right _ (List.mem_of_getElem? (i := 646) (by decide +kernel)), rfl⟩
theorem mw_647 : (Cond.code ({ cls := "CursorRewriterModel", name := "cursor", desc := "()I" } : Jvm.MethodName) prog_7_method_34_code (1 : Nat) (Option.some Jvm.ClassFile.FieldType.int)) ∈ kv_tb := List.mem_filter.mpr ⟨List.mem_append_right _ (List.mem_of_getElem? (i := 647) (by decide +kernel)), rfl⟩
theorem mw_648 : (Cond.methodLink "CursorRewriterLaw" (60 : Nat) ({ cls := "CursorRewriterModel", name := "applied", desc := "()I" } : Jvm.MethodName)) ∈ kv_tb := List.mem_filter.mpr ⟨List.mem_append_right _ (List.mem_of_getElem? (i := 648) (by decide +kernel)), rfl⟩
theorem mw_649 : (Cond.instanceMethod ({ cls := "CursorRewriterModel", name := "applied", desc := "()I" } : Jvm.MethodName)) ∈ kv_tb := List.mem_filter.mpr ⟨List.mem_append_right _ (List.mem_of_getElem? (i := 649) (by decide +kernel)), rfl⟩
theorem mw_650 : (Cond.selects "CursorRewriterModel" ({ cls := "CursorRewriterModel", name := "applied", desc := "()I" } : Jvm.MethodName) ({ cls := "CursorRewriterModel", name := "applied", desc := "()I" } : Jvm.MethodName)) ∈ kv_tb := List.mem_filter.mpr ⟨List.mem_append_right _ (List.mem_of_getElem? (i := 650) (by decide +kernel)), rfl⟩
theorem mw_651 : (Cond.code ({ cls := "CursorRewriterModel", name := "applied", desc := "()I" } : Jvm.MethodName) prog_7_method_35_code (1 : Nat) (Option.some Jvm.ClassFile.FieldType.int)) ∈ kv_tb := List.mem_filter.mpr ⟨List.mem_append_right _ (List.mem_of_getElem? (i := 651) (by decide +kernel)), rfl⟩
theorem mw_652 : (Cond.methodLink "CursorRewriterLaw" (64 : Nat) ({ cls := "CursorRewriterModel", name := "latest", desc := "()I" } : Jvm.MethodName)) ∈ kv_tb := List.mem_filter.mpr ⟨List.mem_append_right _ (List.mem_of_getElem? (i := 652) (by decide +kernel)), rfl⟩
theorem mw_653 : (Cond.instanceMethod ({ cls := "CursorRewriterModel", name := "latest", desc := "()I" } : Jvm.MethodName)) ∈ kv_tb := List.mem_filter.mpr ⟨List.mem_append_right _ (List.mem_of_getElem? (i := 653) (by decide +kernel)), rfl⟩
theorem mw_654 : (Cond.selects "CursorRewriterModel" ({ cls := "CursorRewriterModel", name := "latest", desc := "()I" } : Jvm.MethodName) ({ cls := "CursorRewriterModel", name := "latest", desc := "()I" } : Jvm.MethodName)) ∈ kv_tb := List.mem_filter.mpr ⟨List.mem_append_right _ (List.mem_of_getElem? (i := 654) (by decide +kernel)), rfl⟩
theorem mw_655 : (Cond.code ({ cls := "CursorRewriterModel", name := "latest", desc := "()I" } : Jvm.MethodName) prog_7_method_36_code (1 : Nat) (Option.some Jvm.ClassFile.FieldType.int)) ∈ kv_tb := List.mem_filter.mpr ⟨List.mem_append_right _ (List.mem_of_getElem? (i := 655) (by decide +kernel)), rfl⟩
theorem mw_656 : (Cond.methodLink "CursorRewriterLaw" (69 : Nat) ({ cls := "CursorRewriterModel", name := "stuck", desc := "()Z" } : Jvm.MethodName)) ∈ kv_tb := List.mem_filter.mpr ⟨List.mem_append_right _ (List.mem_of_getElem? (i := 656) (by decide +kernel)), rfl⟩
theorem mw_657 : (Cond.instanceMethod ({ cls := "CursorRewriterModel", name := "stuck", desc := "()Z" } : Jvm.MethodName)) ∈ kv_tb := List.mem_filter.mpr ⟨List.mem_append_right _ (List.mem_of_getElem? (i := 657) (by decide +kernel)), rfl⟩
theorem mw_658 : (Cond.selects "CursorRewriterModel" ({ cls := "CursorRewriterModel", name := "stuck", desc := "()Z" } : Jvm.MethodName) ({ cls := "CursorRewriterModel", name := "stuck", desc := "()Z" } : Jvm.MethodName)) ∈ kv_tb := List.mem_filter.mpr ⟨List.mem_append_right _ (List.mem_of_getElem? (i := 658) (by decide +kernel)), rfl⟩
theorem mw_659 : (Cond.code ({ cls := "CursorRewriterModel", name := "stuck", desc := "()Z" } : Jvm.MethodName) prog_7_method_37_code (1 : Nat) (Option.some Jvm.ClassFile.FieldType.boolean)) ∈ kv_tb := List.mem_filter.mpr ⟨List.mem_append_right _ (List.mem_of_getElem? (i := 659) (by decide +kernel)), rfl⟩
theorem sel_X4_apply : Cond.selects RX4 yX4_apply yX4_apply ∈ kv_tb := List.mem_filter.mpr ⟨List.mem_append_left _ (by decide +kernel), rfl⟩
theorem sel_X4_doAtCursor : Cond.selects RX4 yX4_doAtCursor yX4_doAtCursor ∈ kv_tb := List.mem_filter.mpr ⟨List.mem_append_left _ (by decide +kernel), rfl⟩
theorem sel_X4_endDefinition : Cond.selects RX4 yX4_endDefinition yX4_endDefinition ∈ kv_tb := List.mem_filter.mpr ⟨List.mem_append_left _ (by decide +kernel), rfl⟩
theorem sel_X4_endRule : Cond.selects RX4 yX4_endRule yX4_endRule ∈ kv_tb := List.mem_filter.mpr ⟨List.mem_append_left _ (by decide +kernel), rfl⟩
theorem sel_X4_isMasked : Cond.selects RX4 yX4_isMasked yX4_isMasked ∈ kv_tb := List.mem_filter.mpr ⟨List.mem_append_left _ (by decide +kernel), rfl⟩
theorem sel_X4_rewrite : Cond.selects RX4 yX4_rewrite yX4_rewrite ∈ kv_tb := List.mem_filter.mpr ⟨List.mem_append_left _ (by decide +kernel), rfl⟩
theorem sel_X0_takeBefore : Cond.selects RX0 yX0_takeBefore yX0_takeBefore ∈ kv_tb := List.mem_filter.mpr ⟨List.mem_append_left _ (by decide +kernel), rfl⟩
theorem sel_X0_takeOnward : Cond.selects RX0 yX0_takeOnward yX0_takeOnward ∈ kv_tb := List.mem_filter.mpr ⟨List.mem_append_left _ (by decide +kernel), rfl⟩
theorem sel_X2_hasOpeningBrace : Cond.selects RX2 yX2_hasOpeningBrace yX2_hasOpeningBrace ∈ kv_tb := List.mem_filter.mpr ⟨List.mem_append_left _ (by decide +kernel), rfl⟩
theorem sel_X2_next : Cond.selects RX2 yX2_next yX2_next ∈ kv_tb := List.mem_filter.mpr ⟨List.mem_append_left _ (by decide +kernel), rfl⟩
theorem sel_X2_readBrackets : Cond.selects RX2 yX2_readBrackets yX2_readBrackets ∈ kv_tb := List.mem_filter.mpr ⟨List.mem_append_left _ (by decide +kernel), rfl⟩
theorem sel_X2_readContext : Cond.selects RX2 yX2_readContext yX2_readContext ∈ kv_tb := List.mem_filter.mpr ⟨List.mem_append_left _ (by decide +kernel), rfl⟩
theorem sel_X2_readElement : Cond.selects RX2 yX2_readElement yX2_readElement ∈ kv_tb := List.mem_filter.mpr ⟨List.mem_append_left _ (by decide +kernel), rfl⟩
theorem sel_X2_readKey : Cond.selects RX2 yX2_readKey yX2_readKey ∈ kv_tb := List.mem_filter.mpr ⟨List.mem_append_left _ (by decide +kernel), rfl⟩
theorem sel_X2_readQuantifier : Cond.selects RX2 yX2_readQuantifier yX2_readQuantifier ∈ kv_tb := List.mem_filter.mpr ⟨List.mem_append_left _ (by decide +kernel), rfl⟩
theorem sel_X2_readReplacement : Cond.selects RX2 yX2_readReplacement yX2_readReplacement ∈ kv_tb := List.mem_filter.mpr ⟨List.mem_append_left _ (by decide +kernel), rfl⟩
theorem sel_X2_skip : Cond.selects RX2 yX2_skip yX2_skip ∈ kv_tb := List.mem_filter.mpr ⟨List.mem_append_left _ (by decide +kernel), rfl⟩
theorem sel_X3_putPiece : Cond.selects RX3 yX3_putPiece yX3_putPiece ∈ kv_tb := List.mem_filter.mpr ⟨List.mem_append_left _ (by decide +kernel), rfl⟩
theorem sel_X5_add : Cond.selects RX5 yX5_add yX5_add ∈ kv_tb := List.mem_filter.mpr ⟨List.mem_append_left _ (by decide +kernel), rfl⟩
theorem sel_X5_apply : Cond.selects RX5 yX5_apply yX5_apply ∈ kv_tb := List.mem_filter.mpr ⟨List.mem_append_left _ (by decide +kernel), rfl⟩
theorem sel_X5_at : Cond.selects RX5 yX5_at yX5_at ∈ kv_tb := List.mem_filter.mpr ⟨List.mem_append_left _ (by decide +kernel), rfl⟩
theorem sel_X5_before : Cond.selects RX5 yX5_before yX5_before ∈ kv_tb := List.mem_filter.mpr ⟨List.mem_append_left _ (by decide +kernel), rfl⟩
theorem sel_X5_brackets : Cond.selects RX5 yX5_brackets yX5_brackets ∈ kv_tb := List.mem_filter.mpr ⟨List.mem_append_left _ (by decide +kernel), rfl⟩
theorem sel_X5_count : Cond.selects RX5 yX5_count yX5_count ∈ kv_tb := List.mem_filter.mpr ⟨List.mem_append_left _ (by decide +kernel), rfl⟩
theorem sel_X5_define : Cond.selects RX5 yX5_define yX5_define ∈ kv_tb := List.mem_filter.mpr ⟨List.mem_append_left _ (by decide +kernel), rfl⟩
theorem sel_X5_element : Cond.selects RX5 yX5_element yX5_element ∈ kv_tb := List.mem_filter.mpr ⟨List.mem_append_left _ (by decide +kernel), rfl⟩
theorem sel_X5_enter : Cond.selects RX5 yX5_enter yX5_enter ∈ kv_tb := List.mem_filter.mpr ⟨List.mem_append_left _ (by decide +kernel), rfl⟩
theorem sel_X5_given : Cond.selects RX5 yX5_given yX5_given ∈ kv_tb := List.mem_filter.mpr ⟨List.mem_append_left _ (by decide +kernel), rfl⟩
theorem sel_X5_masks : Cond.selects RX5 yX5_masks yX5_masks ∈ kv_tb := List.mem_filter.mpr ⟨List.mem_append_left _ (by decide +kernel), rfl⟩
theorem sel_X5_match : Cond.selects RX5 yX5_match yX5_match ∈ kv_tb := List.mem_filter.mpr ⟨List.mem_append_left _ (by decide +kernel), rfl⟩
theorem sel_X5_place : Cond.selects RX5 yX5_place yX5_place ∈ kv_tb := List.mem_filter.mpr ⟨List.mem_append_left _ (by decide +kernel), rfl⟩
theorem sel_X5_plain : Cond.selects RX5 yX5_plain yX5_plain ∈ kv_tb := List.mem_filter.mpr ⟨List.mem_append_left _ (by decide +kernel), rfl⟩
theorem sel_X5_read : Cond.selects RX5 yX5_read yX5_read ∈ kv_tb := List.mem_filter.mpr ⟨List.mem_append_left _ (by decide +kernel), rfl⟩
theorem sel_X5_replacement : Cond.selects RX5 yX5_replacement yX5_replacement ∈ kv_tb := List.mem_filter.mpr ⟨List.mem_append_left _ (by decide +kernel), rfl⟩
theorem sel_X5_row : Cond.selects RX5 yX5_row yX5_row ∈ kv_tb := List.mem_filter.mpr ⟨List.mem_append_left _ (by decide +kernel), rfl⟩
theorem sel_X5_rowOf : Cond.selects RX5 yX5_rowOf yX5_rowOf ∈ kv_tb := List.mem_filter.mpr ⟨List.mem_append_left _ (by decide +kernel), rfl⟩
theorem sel_X5_standsFor : Cond.selects RX5 yX5_standsFor yX5_standsFor ∈ kv_tb := List.mem_filter.mpr ⟨List.mem_append_left _ (by decide +kernel), rfl⟩
theorem sel_X5_work : Cond.selects RX5 yX5_work yX5_work ∈ kv_tb := List.mem_filter.mpr ⟨List.mem_append_left _ (by decide +kernel), rfl⟩
theorem kv_goodC {c0 cy : Cond} (hy : cy ∈ kv_tb) : GoodIn (c0 :: kv_tb) (cy :: kv_tb) := fun w hw => by
  have h : w ∈ kv_tb := (List.mem_cons.mp hw).elim (fun e => by rw [e]; exact hy) id
  exact ⟨List.mem_cons_of_mem _ h, good_of_word (kv_goodW h)⟩
theorem kv_goodCL {cy : Cond} (hy : cy ∈ kv_tb) : GoodIn kv_tb (cy :: kv_tb) := fun w hw => by
  have h : w ∈ kv_tb := (List.mem_cons.mp hw).elim (fun e => by rw [e]; exact hy) id
  exact ⟨h, good_of_word (kv_goodW h)⟩
theorem kv_goodV {own C : String} {index : Nat} {y : MethodName} {c0 cy : Cond} (h1 : Cond.methodLink own index y ∈ kv_tb) (h2 : Cond.instanceMethod y ∈ kv_tb) (h3 : Cond.selects C y y ∈ kv_tb) (h4 : Cond.initialized C ∈ kv_tb) (h5 : cy ∈ kv_tb) : GoodIn (c0 :: kv_tb) (wsV own index C y (cy :: kv_tb)) := fun w hw => by
  have h : w ∈ kv_tb := by
    unfold wsV at hw
    simp only [List.mem_append, List.mem_cons, List.not_mem_nil, or_false] at hw
    rcases hw with (rfl | rfl | rfl | rfl) | rfl | hw
    · exact h1
    · exact h2
    · exact h3
    · exact h4
    · exact h5
    · exact hw
  exact ⟨List.mem_cons_of_mem _ h, good_of_word (kv_goodW h)⟩
theorem kv_goodVL {own C : String} {index : Nat} {y : MethodName} {cy : Cond} (h1 : Cond.methodLink own index y ∈ kv_tb) (h2 : Cond.instanceMethod y ∈ kv_tb) (h3 : Cond.selects C y y ∈ kv_tb) (h4 : Cond.initialized C ∈ kv_tb) (h5 : cy ∈ kv_tb) : GoodIn kv_tb (wsV own index C y (cy :: kv_tb)) := fun w hw => by
  have h := (kv_goodV (c0 := cy) h1 h2 h3 h4 h5) w hw
  have h6 : w ∈ kv_tb := (List.mem_cons.mp h.1).elim (fun e => by rw [e]; exact h5) id
  exact ⟨h6, h.2⟩
theorem kv_goodS {own : String} {index : Nat} {y : MethodName} {c0 cy : Cond} (h1 : Cond.methodLink own index y ∈ kv_tb) (h2 : Cond.static y ∈ kv_tb) (h4 : Cond.initialized own ∈ kv_tb) (h5 : cy ∈ kv_tb) : GoodIn (c0 :: kv_tb) (wsS own index y (cy :: kv_tb)) := fun w hw => by
  have h : w ∈ kv_tb := by
    unfold wsS at hw
    simp only [List.mem_append, List.mem_cons, List.not_mem_nil, or_false] at hw
    rcases hw with (rfl | rfl | rfl) | rfl | hw
    · exact h1
    · exact h2
    · exact h4
    · exact h5
    · exact hw
  exact ⟨List.mem_cons_of_mem _ h, good_of_word (kv_goodW h)⟩
end
section
/-! A picture of the machine: cells are numbered from 1 on (0: the script), values, locals, stack and cells with these numbers; a denotation of 'from this pc to the return' is a relation. -/
abbrev kv_H : Type := (Nat → va_E) × Nat × Nat
abbrev kv_D : Type := List (Option Value) → List Value → kv_H → Option Value → kv_H → Prop
abbrev kv_M : Type := List Value → kv_H → Option Value → kv_H → Prop
abbrev kv_Y0 : Type := (Nat → Int32) ⊕ (Nat → Int64) ⊕ (Nat → UInt32) ⊕ (Nat → UInt64) ⊕ (Nat → Option Nat)
def kv_a (b S : Nat) (a : Nat) : Nat := match a with
  | 0 => b
  | k + 1 => S + k
def kv_v (b S : Nat) (v : Value) : Value := match v with
  | .ref a => .ref (kv_a b S a)
  | .int x => .int x
  | .long x => .long x
  | .float x => .float x
  | .double x => .double x
  | .null => .null
  | .retAddr x => .retAddr x
def kv_x (b S : Nat) (x : kv_Y0) : kv_Y0 := match x with
  | .inl f => .inl f
  | .inr (.inl f) => .inr (.inl f)
  | .inr (.inr (.inl f)) => .inr (.inr (.inl f))
  | .inr (.inr (.inr (.inl f))) => .inr (.inr (.inr (.inl f)))
  | .inr (.inr (.inr (.inr f))) => .inr (.inr (.inr (.inr (fun j => (f j).map (kv_a b S)))))
def kv_e (b S : Nat) (dA : Nat → ClassId) (e : va_E) : va_E := match e with
  | .inl q => .inl (dA q.1, q.2.1, kv_x b S q.2.2)
  | .inr q => .inr (q.1, q.2.map (kv_v b S))
def kv_w (b S : Nat) (dA : Nat → ClassId) (h : kv_H) : va_W := (List.range h.2.1).map (fun k => (S + k, kv_e b S dA (h.1 (k + 1))))
def kv_g (h : kv_H) (a : Nat) : Option va_E := if 1 ≤ a ∧ a ≤ h.2.1 then some (h.1 a) else none
def kv_p (h : kv_H) (a : Nat) (e : va_E) : kv_H := (va_up h.1 a e, h.2)
def kv_n (h : kv_H) (e : va_E) (z : Nat) : kv_H := (va_up h.1 (h.2.1 + 1) e, h.2.1 + 1, h.2.2 + z)
def kv_T (dA : Nat → ClassId) : List (ClassId × FieldType) := kv_tl.zipIdx.map (fun q => (dA q.2, q.1))
theorem kv_T_at {dA : Nat → ClassId} {t : Nat} {ty : FieldType} (h : kv_tl[t]? = some ty) : (kv_T dA)[t]? = some (dA t, ty) := by
  simp [kv_T, h]
theorem kv_cat (b S : Nat) (v : Value) : (kv_v b S v).category = v.category := by cases v <;> rfl
theorem kv_cats (b S : Nat) (l : List Value) : ((l.map (kv_v b S)).map fun v => v.category).sum = (l.map fun v => v.category).sum := by
  rw [List.map_map]
  congr 1
  apply List.map_congr_left
  intro v _
  exact kv_cat b S v
theorem kv_narrow {b S : Nat} {ty : FieldType} {v : Value} (h : narrow ty v = v) : narrow ty (kv_v b S v) = kv_v b S v := by
  cases v <;> first | exact h | (cases ty <;> rfl)
theorem kv_fits {b S : Nat} {ty : FieldType} {v : Value} (h : fits ty v = true) : fits ty (kv_v b S v) = true := by
  cases v <;> first | exact h | (cases ty <;> first | rfl | exact h)
theorem kv_g_le {h : kv_H} {a : Nat} {e : va_E} (hg : kv_g h a = some e) : 1 ≤ a ∧ a ≤ h.2.1 ∧ h.1 a = e := by
  unfold kv_g at hg
  split at hg
  · rename_i hc
    exact ⟨hc.1, hc.2, Option.some.inj hg⟩
  · cases hg
theorem kv_a_pos (b S : Nat) {a : Nat} (h : 1 ≤ a) : kv_a b S a = S + (a - 1) := by
  cases a with
  | zero => omega
  | succ k => simp [kv_a]
theorem kv_w_get {b S : Nat} {dA : Nat → ClassId} {h : kv_H} {a : Nat} {e : va_E} (hg : kv_g h a = some e) : (kv_w b S dA h)[a - 1]? = some (kv_a b S a, kv_e b S dA e) := by
  obtain ⟨h1, h2, rfl⟩ := kv_g_le hg
  unfold kv_w
  rw [List.getElem?_map, List.getElem?_range (by omega), kv_a_pos b S h1]
  simp [show a - 1 + 1 = a by omega]
theorem kv_w_len {b S : Nat} {dA : Nat → ClassId} {h : kv_H} : (kv_w b S dA h).length = h.2.1 := by simp [kv_w]
theorem kv_w_at {b S : Nat} {dA : Nat → ClassId} {h : kv_H} {k : Nat} {q : Nat × va_E} (hq : (kv_w b S dA h)[k]? = some q) : k < h.2.1 ∧ q = (S + k, kv_e b S dA (h.1 (k + 1))) := by
  have hl := (List.getElem?_eq_some_iff.mp hq).1
  rw [kv_w_len] at hl
  unfold kv_w at hq
  rw [List.getElem?_map, List.getElem?_range hl] at hq
  exact ⟨hl, (Option.some.inj hq).symm⟩
theorem kv_w_set {b S : Nat} {dA : Nat → ClassId} {h : kv_H} {a : Nat} {e0 : va_E} (e : va_E) (hg : kv_g h a = some e0) : (kv_w b S dA h).set (a - 1) (kv_a b S a, kv_e b S dA e) = kv_w b S dA (kv_p h a e) := by
  obtain ⟨h1, h2, -⟩ := kv_g_le hg
  apply List.ext_getElem?
  intro k
  by_cases hk : k < h.2.1
  · have hr : (kv_w b S dA (kv_p h a e))[k]? = some (S + k, kv_e b S dA (va_up h.1 a e (k + 1))) := by
      unfold kv_w
      rw [List.getElem?_map, List.getElem?_range (by exact hk)]
      rfl
    rw [hr]
    by_cases hka : k = a - 1
    · subst hka
      rw [List.getElem?_set_self (by rw [kv_w_len]; exact hk), kv_a_pos b S h1]
      rw [show a - 1 + 1 = a by omega, va_up_self]
    · rw [List.getElem?_set_ne (Ne.symm hka)]
      unfold kv_w
      rw [List.getElem?_map, List.getElem?_range hk, va_up_ne _ _ (by omega)]
      rfl
  · rw [List.getElem?_eq_none (by simp [kv_w_len]; omega), List.getElem?_eq_none (by rw [kv_w_len]; show h.2.1 ≤ k; omega)]
theorem kv_w_new {b S : Nat} {dA : Nat → ClassId} {h : kv_H} (e : va_E) (z : Nat) : kv_w b S dA (kv_n h e z) = kv_w b S dA h ++ [(S + h.2.1, kv_e b S dA e)] := by
  unfold kv_w kv_n
  simp only [List.range_succ, List.map_append, List.map_cons, List.map_nil, va_up_self]
  congr 1
  apply List.map_congr_left
  intro k hk
  rw [va_up_ne _ _ (by have := List.mem_range.mp hk; omega)]
theorem kv_w_D (b S : Nat) (dA : Nat → ClassId) (h : kv_H) : va_D (fun q => S ≤ q) (kv_w b S dA h) := by
  refine ⟨fun i j p q hi hj hpq => ?_, fun k q hk => ?_⟩
  · obtain ⟨-, rfl⟩ := kv_w_at hi
    obtain ⟨-, rfl⟩ := kv_w_at hj
    dsimp only at hpq
    omega
  · obtain ⟨-, rfl⟩ := kv_w_at hk
    show S ≤ S + k
    omega
/-! locals -/
def kv_L (b S : Nat) (ls : Array Slot) (nL : Nat) (L : List (Option Value)) : Prop := ls.size = nL ∧ lv_wf ls ∧ L.length = nL ∧ ∀ (i : Nat) (v : Value), L[i]? = some (some v) → v.category = 1 → ls[i]? = some (.val (kv_v b S v))
def kv_lv (b S nL : Nat) (L : List (Option Value)) : List (Nat × Value) := (List.range nL).filterMap (fun j => match L[j]? with
  | some (some v) => if v.category = 1 then some (j, kv_v b S v) else none
  | _ => none)
theorem kv_lv_mem {b S nL : Nat} {L : List (Option Value)} {j : Nat} {v : Value} (hj : j < nL) (h : L[j]? = some (some v)) (hc : v.category = 1) : (j, kv_v b S v) ∈ kv_lv b S nL L := by
  refine List.mem_filterMap.mpr ⟨j, List.mem_range.mpr hj, ?_⟩
  rw [h]
  simp [hc]
theorem kv_lv_has {b S nL : Nat} {ls : Array Slot} {L : List (Option Value)} (h : kv_L b S ls nL L) : lv_has ls nL (kv_lv b S nL L) := by
  obtain ⟨h1, h2, h3, h4⟩ := h
  refine ⟨h1, h2, fun q hq => ?_⟩
  obtain ⟨j, -, hj⟩ := List.mem_filterMap.mp hq
  split at hj
  · rename_i v hv
    split at hj
    · rename_i hc
      cases hj
      exact h4 j v hv hc
    · cases hj
  · cases hj
theorem kv_lv_set {b S nL : Nat} {ls ls' : Array Slot} {L : List (Option Value)} {i : Nat} {x : Value} (h : kv_L b S ls nL L) (h' : lv_has ls' nL ((i, kv_v b S x) :: (kv_lv b S nL L).filter (fun q => !(q.1 == i) && !(q.1 + 1 == i && q.2.category == 2)))) : kv_L b S ls' nL (L.set i (some x)) := by
  obtain ⟨h1, h2, h3, h4⟩ := h
  obtain ⟨g1, g2, g3⟩ := h'
  refine ⟨g1, g2, by rw [List.length_set]; exact h3, fun j v hv hc => ?_⟩
  by_cases hji : j = i
  · subst hji
    have hl : j < (L.set j (some x)).length := (List.getElem?_eq_some_iff.mp hv).1
    rw [List.length_set] at hl
    rw [List.getElem?_set_self hl] at hv
    cases hv
    exact g3 (j, kv_v b S x) List.mem_cons_self
  · rw [List.getElem?_set_ne (Ne.symm hji)] at hv
    have hl : j < L.length := (List.getElem?_eq_some_iff.mp hv).1
    have hm := kv_lv_mem (b := b) (S := S) (nL := nL) (by omega) hv hc
    refine g3 (j, kv_v b S v) (List.mem_cons_of_mem _ (List.mem_filter.mpr ⟨hm, ?_⟩))
    simp [hji, kv_cat, hc]
/-! words of private members of nest mates, and of arrays of objects: not words of a contract's list, so they stand in its premise -/
def kv_nw (U : State) : Prop := ∀ w ∈ kv_nl, w.before #[] U = true
theorem kv_nw_warm {s U : State} (hW : s.WarmedH U.vm) (h : kv_nw s) : kv_nw U := fun w hw => by
  have h1 := h w hw
  have h2 := (List.mem_filter.mp hw).2
  cases w <;> first | exact va_Nw.warmF hW h1 | exact va_Nw.warmM hW h1 | exact (Bool.false_ne_true h2).elim | (rename_i t; cases t <;> first | exact va_AO.moved hW.alike h1 | exact (Bool.false_ne_true h2).elim)
theorem kv_nw_vm {u U : State} (hv : u.vm = U.vm) (h : kv_nw u) : kv_nw U := fun w hw => by
  have h1 := h w hw
  have h2 := (List.mem_filter.mp hw).2
  have hal : u.vm.Alike U.vm := by rw [hv]; exact Vm.Alike.refl _
  cases w <;> first | exact (Bool.false_ne_true h2).elim | exact va_Nw.same rfl hv h1 | (rename_i t; cases t <;> first | exact va_AO.moved hal h1 | exact (Bool.false_ne_true h2).elim)
/-! the judgement -/
def kv_X (cc : ByteArray) (nL : Nat) (own : String) (Ts : List Cond) (ret : Option FieldType) (ini : Bool) (fr lo : Nat) (sc : Option (Nat × (Nat → Int32))) (p : Program) (R : Room) (s : State) (m : MethodId) (args : Array Value) (meth : Method) (c : Code) (b S n0 : Nat) (dC : Nat → ClassId) (dI : Nat → Nat → Nat) (dA : Nat → ClassId) : Prop :=
  p.tables.exec = Jvm.exec ∧ c.code = cc ∧ c.maxLocals = nL ∧ s.vm.findClass own = some m.cls ∧ (∀ w ∈ Ts, w.before args s = true) ∧ meth.sig.returnType = ret ∧ (ini = true → meth.name = "<init>") ∧ fr ≤ R.frames ∧ lo ≤ R.locals ∧ (va_K (dC, dI) vwCl (kv_T dA) s ∧ kv_nw s) ∧ s.heap.size = S + n0 ∧ ∀ (N : Nat) (xs : Nat → Int32), sc = some (N, xs) → va_X b N xs s s.heap ∧ b < s.heap.size ∧ b < S
def kv_Y (nL b S n0 z0 : Nat) (dC : Nat → ClassId) (dI : Nat → Nat → Nat) (dA : Nat → ClassId) (s : State) (L : List (Option Value)) (h : kv_H) (ls : Array Slot) (H : Heap) (locs : List Loc) (cells slots : Nat) : Prop :=
  kv_L b S ls nL L ∧ va_P (dC, dI) vwCl (kv_w b S dA h) H ∧ H.size = S + h.2.1 ∧ va_S (fun q => S ≤ q) s.heap H locs ∧ cells + n0 = h.2.1 ∧ slots + z0 = h.2.2
def kv_r (cc : ByteArray) (ret : Option FieldType) (pc : Nat) (v : Option Value) : Prop :=
  (v = none ∧ ret = none ∧ decode cc pc = .ok (.return_, 1)) ∨ (∃ (x : Int32) (ty : FieldType), v = some (.int x) ∧ ret = some ty ∧ narrow ty (.int x) = .int x ∧ decode cc pc = .ok (.ireturn, 1)) ∨ (∃ (a : Nat) (ty : FieldType), v = some (.ref a) ∧ ret = some ty ∧ ((∃ n, ty = .object n) ∨ ∃ t, ty = .array t) ∧ decode cc pc = .ok (.areturn, 1))
def kv_S (cc : ByteArray) (nL : Nat) (own : String) (Ts : List Cond) (ret : Option FieldType) (ini : Bool) (fr lo : Nat) (sc : Option (Nat × (Nat → Int32))) (pc : Nat) (F : kv_D) : Prop :=
  ∀ (L : List (Option Value)) (st : List Value) (h : kv_H) (v : Option Value) (h' : kv_H), F L st h v h' → (h.2.1 ≤ h'.2.1 ∧ h.2.2 ≤ h'.2.2) ∧
    ∀ (p : Program) (l : Launch) (e : Env) (R : Room) (s : State) (m : MethodId) (args : Array Value) (below : List Frame) (meth : Method) (c : Code) (b S n0 z0 : Nat) (dC : Nat → ClassId) (dI : Nat → Nat → Nat) (dA : Nat → ClassId) (Q : State → Prop),
      kv_X cc nL own Ts ret ini fr lo sc p R s m args meth c b S n0 dC dI dA → h'.2.1 ≤ R.cells + n0 → h'.2.2 ≤ R.slots + z0 →
      (∀ (pc' : Nat) (ls' : Array Slot) (L' : List (Option Value)) (H' : Heap) (locs' : List Loc) (cells' slots' : Nat), kv_r cc ret pc' v → kv_Y nL b S n0 z0 dC dI dA s L' h' ls' H' locs' cells' slots' → W p l e R s m args below meth c H' locs' cells' slots' Q (F0 m pc' ls' (v.toList.map (kv_v b S)))) →
      ∀ (ls : Array Slot) (H : Heap) (locs : List Loc) (cells slots : Nat), kv_Y nL b S n0 z0 dC dI dA s L h ls H locs cells slots → W p l e R s m args below meth c H locs cells slots Q (F0 m pc ls (st.map (kv_v b S)))
/-- a step of stack and locals alone -/
def kv_st (cc : ByteArray) (nL : Nat) (own : String) (Ts : List Cond) (ret : Option FieldType) (ini : Bool) (fr lo : Nat) (sc : Option (Nat × (Nat → Int32))) (pc : Nat) (L : List (Option Value)) (st : List Value) (h : kv_H) (pc' : Nat) (L' : List (Option Value)) (st' : List Value) : Prop :=
  ∀ (p : Program) (l : Launch) (e : Env) (R : Room) (s : State) (m : MethodId) (args : Array Value) (below : List Frame) (meth : Method) (c : Code) (b S n0 z0 : Nat) (dC : Nat → ClassId) (dI : Nat → Nat → Nat) (dA : Nat → ClassId) (Q : State → Prop),
      kv_X cc nL own Ts ret ini fr lo sc p R s m args meth c b S n0 dC dI dA →
      ∀ (ls : Array Slot) (H : Heap) (locs : List Loc) (cells slots : Nat), cells ≤ R.cells → slots ≤ R.slots → kv_Y nL b S n0 z0 dC dI dA s L h ls H locs cells slots →
      (∀ ls' : Array Slot, kv_L b S ls' nL L' → W p l e R s m args below meth c H locs cells slots Q (F0 m pc' ls' (st'.map (kv_v b S)))) →
      W p l e R s m args below meth c H locs cells slots Q (F0 m pc ls (st.map (kv_v b S)))
section KVA
variable {cc : ByteArray} {nL : Nat} {own : String} {Ts : List Cond} {ret : Option FieldType} {ini : Bool} {fr lo : Nat} {sc : Option (Nat × (Nat → Int32))} {pc : Nat}
theorem kv_mk {F : kv_D} (hF : ∀ (L : List (Option Value)) (st : List Value) (h : kv_H) (v : Option Value) (h' : kv_H), F L st h v h' → ∃ (pc' : Nat) (G : kv_D) (L' : List (Option Value)) (st' : List Value), kv_S cc nL own Ts ret ini fr lo sc pc' G ∧ G L' st' h v h' ∧ kv_st cc nL own Ts ret ini fr lo sc pc L st h pc' L' st') : kv_S cc nL own Ts ret ini fr lo sc pc F := by
  intro L st h v h' hf
  obtain ⟨pc', G, L', st', hG, g1, g2⟩ := hF L st h v h' hf
  obtain ⟨mono, snd⟩ := hG L' st' h v h' g1
  refine ⟨mono, ?_⟩
  intro p l e R s m args below meth c b S n0 z0 dC dI dA Q X hc hz kr ls H locs cells slots Y
  have Y0 := Y
  obtain ⟨y1, y2, y3, y4, y5, y6⟩ := Y
  refine g2 p l e R s m args below meth c b S n0 z0 dC dI dA Q X ls H locs cells slots (by omega) (by omega) Y0 (fun ls' hl' => ?_)
  exact snd p l e R s m args below meth c b S n0 z0 dC dI dA Q X hc hz kr ls' H locs cells slots ⟨hl', y2, y3, y4, y5, y6⟩
/-- what the machine's own book says of the heap's size -/
theorem kv_size {p : Program} {l : Launch} {e : Env} {R : Room} {s : State} {m : MethodId} {args : Array Value} {below : List Frame} {meth : Method} {c : Code} {H : Heap} {locs : List Loc} {cells slots : Nat} {Q : State → Prop} {g : JFrame} (kk : H.size ≤ s.heap.size + cells → W p l e R s m args below meth c H locs cells slots Q g) : W p l e R s m args below meth c H locs cells slots Q g :=
  fun T hT X => kk (by have h := X.same.2.2.1; rw [← hT]; exact h) T hT X
theorem kv_none : kv_S cc nL own Ts ret ini fr lo sc pc (fun _ _ _ _ _ => False) := fun _ _ _ _ _ h => h.elim
end KVA
end
section
section KVB
variable {cc : ByteArray} {nL : Nat} {own : String} {Ts : List Cond} {ret : Option FieldType} {ini : Bool} {fr lo : Nat} {sc : Option (Nat × (Nat → Int32))} {pc : Nat} {F G : kv_D}
def o_const (x : Int32) (F : kv_D) : kv_D := fun L st h v h' => F L (.int x :: st) h v h'
theorem k_iconst {n : Int} {x : Int32} (d : decode cc pc = .ok (.iconst n, 1)) (hx : Int32.ofInt n = x) (k : kv_S cc nL own Ts ret ini fr lo sc (pc + 1) F) : kv_S cc nL own Ts ret ini fr lo sc pc (o_const x F) := kv_mk (fun L st h v h' hF => ⟨_, F, _, _, k, hF, fun p l e R s m args below meth c b S n0 z0 dC dI dA Q X ls H locs cells slots hc hs Y kk => lv_iconst X.1 X.2.1 d hx (kk ls Y.1)⟩)
theorem k_bipush {n : Int} {x : Int32} (d : decode cc pc = .ok (.bipush n, 2)) (hx : (Int8.ofInt n).toInt32 = x) (k : kv_S cc nL own Ts ret ini fr lo sc (pc + 2) F) : kv_S cc nL own Ts ret ini fr lo sc pc (o_const x F) := kv_mk (fun L st h v h' hF => ⟨_, F, _, _, k, hF, fun p l e R s m args below meth c b S n0 z0 dC dI dA Q X ls H locs cells slots hc hs Y kk => lv_bipush X.1 X.2.1 d hx (kk ls Y.1)⟩)
theorem k_sipush {n : Int} {x : Int32} (d : decode cc pc = .ok (.sipush n, 3)) (hx : (Int16.ofInt n).toInt32 = x) (k : kv_S cc nL own Ts ret ini fr lo sc (pc + 3) F) : kv_S cc nL own Ts ret ini fr lo sc pc (o_const x F) := kv_mk (fun L st h v h' hF => ⟨_, F, _, _, k, hF, fun p l e R s m args below meth c b S n0 z0 dC dI dA Q X ls H locs cells slots hc hs Y kk => lv_sipush X.1 X.2.1 d hx (kk ls Y.1)⟩)
theorem k_ldc {index : Nat} {x : Int32} (d : decode cc pc = .ok (.ldc index, 2)) (hx : Cond.constant own index x ∈ Ts) (k : kv_S cc nL own Ts ret ini fr lo sc (pc + 2) F) : kv_S cc nL own Ts ret ini fr lo sc pc (o_const x F) := kv_mk (fun L st h v h' hF => ⟨_, F, _, _, k, hF, fun p l e R s m args below meth c b S n0 z0 dC dI dA Q X ls H locs cells slots hc hs Y kk => lv_ldc X.1 X.2.1 X.2.2.2.1 (X.2.2.2.2.1 _ hx) d (kk ls Y.1)⟩)
def o_iload (i : Nat) (F : kv_D) : kv_D := fun L st h v h' => match L[i]? with
  | some (some (.int x)) => F L (.int x :: st) h v h'
  | _ => False
def o_aload (i : Nat) (F : kv_D) : kv_D := fun L st h v h' => match L[i]? with
  | some (some (.ref x)) => F L (.ref x :: st) h v h'
  | _ => False
theorem k_iload_n {i : Nat} {q : Fin 4} (d : decode cc pc = .ok (.iload_n q, 1)) (hi : (q : Nat) = i) (k : kv_S cc nL own Ts ret ini fr lo sc (pc + 1) F) : kv_S cc nL own Ts ret ini fr lo sc pc (o_iload i F) := kv_mk (fun L st h v h' hF => by
  unfold o_iload at hF
  split at hF
  · rename_i x hx
    exact ⟨_, F, _, _, k, hF, fun p l e R s m args below meth c b S n0 z0 dC dI dA Q X ls H locs cells slots hc hs Y kk => lv_iload_n X.1 X.2.1 d hi (Y.1.2.2.2 i _ hx rfl) (kk ls Y.1)⟩
  · exact hF.elim)
theorem k_iload {i : Nat} (d : decode cc pc = .ok (.iload i, 2)) (k : kv_S cc nL own Ts ret ini fr lo sc (pc + 2) F) : kv_S cc nL own Ts ret ini fr lo sc pc (o_iload i F) := kv_mk (fun L st h v h' hF => by
  unfold o_iload at hF
  split at hF
  · rename_i x hx
    exact ⟨_, F, _, _, k, hF, fun p l e R s m args below meth c b S n0 z0 dC dI dA Q X ls H locs cells slots hc hs Y kk => lv_iload X.1 X.2.1 d (Y.1.2.2.2 i _ hx rfl) (kk ls Y.1)⟩
  · exact hF.elim)
theorem k_aload_n {i : Nat} {q : Fin 4} (d : decode cc pc = .ok (.aload_n q, 1)) (hi : (q : Nat) = i) (k : kv_S cc nL own Ts ret ini fr lo sc (pc + 1) F) : kv_S cc nL own Ts ret ini fr lo sc pc (o_aload i F) := kv_mk (fun L st h v h' hF => by
  unfold o_aload at hF
  split at hF
  · rename_i x hx
    exact ⟨_, F, _, _, k, hF, fun p l e R s m args below meth c b S n0 z0 dC dI dA Q X ls H locs cells slots hc hs Y kk => lv_aload_n X.1 X.2.1 d hi (Y.1.2.2.2 i _ hx rfl) (kk ls Y.1)⟩
  · exact hF.elim)
theorem k_aload {i : Nat} (d : decode cc pc = .ok (.aload i, 2)) (k : kv_S cc nL own Ts ret ini fr lo sc (pc + 2) F) : kv_S cc nL own Ts ret ini fr lo sc pc (o_aload i F) := kv_mk (fun L st h v h' hF => by
  unfold o_aload at hF
  split at hF
  · rename_i x hx
    exact ⟨_, F, _, _, k, hF, fun p l e R s m args below meth c b S n0 z0 dC dI dA Q X ls H locs cells slots hc hs Y kk => lv_aload X.1 X.2.1 d (Y.1.2.2.2 i _ hx rfl) (kk ls Y.1)⟩
  · exact hF.elim)
def o_istore (i : Nat) (F : kv_D) : kv_D := fun L st h v h' => match st with
  | .int x :: r => F (L.set i (some (.int x))) r h v h'
  | _ => False
def o_astore (i : Nat) (F : kv_D) : kv_D := fun L st h v h' => match st with
  | .ref x :: r => F (L.set i (some (.ref x))) r h v h'
  | _ => False
theorem k_istore_n {i : Nat} {q : Fin 4} (d : decode cc pc = .ok (.istore_n q, 1)) (hi : (q : Nat) = i) (hn : i < nL) (k : kv_S cc nL own Ts ret ini fr lo sc (pc + 1) F) : kv_S cc nL own Ts ret ini fr lo sc pc (o_istore i F) := kv_mk (fun L st h v h' hF => by
  unfold o_istore at hF
  split at hF
  · exact ⟨_, F, _, _, k, hF, fun p l e R s m args below meth c b S n0 z0 dC dI dA Q X ls H locs cells slots hc hs Y kk => lv_istore_n X.1 X.2.1 d hi (kv_lv_has Y.1) hn rfl (fun ls' h' => kk ls' (kv_lv_set Y.1 h'))⟩
  · exact hF.elim)
theorem k_istore {i : Nat} (d : decode cc pc = .ok (.istore i, 2)) (hn : i < nL) (k : kv_S cc nL own Ts ret ini fr lo sc (pc + 2) F) : kv_S cc nL own Ts ret ini fr lo sc pc (o_istore i F) := kv_mk (fun L st h v h' hF => by
  unfold o_istore at hF
  split at hF
  · exact ⟨_, F, _, _, k, hF, fun p l e R s m args below meth c b S n0 z0 dC dI dA Q X ls H locs cells slots hc hs Y kk => lv_istore X.1 X.2.1 d (kv_lv_has Y.1) hn rfl (fun ls' h' => kk ls' (kv_lv_set Y.1 h'))⟩
  · exact hF.elim)
theorem k_astore_n {i : Nat} {q : Fin 4} (d : decode cc pc = .ok (.astore_n q, 1)) (hi : (q : Nat) = i) (hn : i < nL) (k : kv_S cc nL own Ts ret ini fr lo sc (pc + 1) F) : kv_S cc nL own Ts ret ini fr lo sc pc (o_astore i F) := kv_mk (fun L st h v h' hF => by
  unfold o_astore at hF
  split at hF
  · exact ⟨_, F, _, _, k, hF, fun p l e R s m args below meth c b S n0 z0 dC dI dA Q X ls H locs cells slots hc hs Y kk => lv_astore_n X.1 X.2.1 d hi (kv_lv_has Y.1) hn rfl (fun ls' h' => kk ls' (kv_lv_set Y.1 h'))⟩
  · exact hF.elim)
theorem k_astore {i : Nat} (d : decode cc pc = .ok (.astore i, 2)) (hn : i < nL) (k : kv_S cc nL own Ts ret ini fr lo sc (pc + 2) F) : kv_S cc nL own Ts ret ini fr lo sc pc (o_astore i F) := kv_mk (fun L st h v h' hF => by
  unfold o_astore at hF
  split at hF
  · exact ⟨_, F, _, _, k, hF, fun p l e R s m args below meth c b S n0 z0 dC dI dA Q X ls H locs cells slots hc hs Y kk => lv_astore X.1 X.2.1 d (kv_lv_has Y.1) hn rfl (fun ls' h' => kk ls' (kv_lv_set Y.1 h'))⟩
  · exact hF.elim)
def o_iinc (i : Nat) (k : Int32) (F : kv_D) : kv_D := fun L st h v h' => match L[i]? with
  | some (some (.int x)) => F (L.set i (some (.int (x + k)))) st h v h'
  | _ => False
theorem k_iinc {i : Nat} {n : Int} {q : Int32} (d : decode cc pc = .ok (.iinc i n, 3)) (hq : Int32.ofInt n = q) (hn : i < nL) (k : kv_S cc nL own Ts ret ini fr lo sc (pc + 3) F) : kv_S cc nL own Ts ret ini fr lo sc pc (o_iinc i q F) := kv_mk (fun L st h v h' hF => by
  unfold o_iinc at hF
  split at hF
  · rename_i x hx
    refine ⟨_, F, _, _, k, hF, fun p l e R s m args below meth c b S n0 z0 dC dI dA Q X ls H locs cells slots hc hs Y kk => ?_⟩
    obtain ⟨j, hj⟩ := List.getElem?_of_mem (kv_lv_mem (b := b) (S := S) hn hx rfl)
    exact lv_iinc (x := x) (v := x + q) X.1 X.2.1 d (kv_lv_has Y.1) hj (by rw [hq]) hn rfl (fun ls' h' => kk ls' (kv_lv_set (x := .int (x + q)) Y.1 h'))
  · exact hF.elim)
def o_iadd (F : kv_D) : kv_D := fun L st h v h' => match st with
  | .int y :: .int x :: r => F L (.int (x + y) :: r) h v h'
  | _ => False
theorem k_iadd (d : decode cc pc = .ok (.iadd, 1)) (k : kv_S cc nL own Ts ret ini fr lo sc (pc + 1) F) : kv_S cc nL own Ts ret ini fr lo sc pc (o_iadd F) := kv_mk (fun L st h v h' hF => by
  unfold o_iadd at hF
  split at hF
  · exact ⟨_, F, _, _, k, hF, fun p l e R s m args below meth c b S n0 z0 dC dI dA Q X ls H locs cells slots hc hs Y kk => lv_iadd X.1 X.2.1 d (kk ls Y.1)⟩
  · exact hF.elim)
def o_isub (F : kv_D) : kv_D := fun L st h v h' => match st with
  | .int y :: .int x :: r => F L (.int (x - y) :: r) h v h'
  | _ => False
theorem k_isub (d : decode cc pc = .ok (.isub, 1)) (k : kv_S cc nL own Ts ret ini fr lo sc (pc + 1) F) : kv_S cc nL own Ts ret ini fr lo sc pc (o_isub F) := kv_mk (fun L st h v h' hF => by
  unfold o_isub at hF
  split at hF
  · exact ⟨_, F, _, _, k, hF, fun p l e R s m args below meth c b S n0 z0 dC dI dA Q X ls H locs cells slots hc hs Y kk => lv_isub X.1 X.2.1 d (kk ls Y.1)⟩
  · exact hF.elim)
def o_imul (F : kv_D) : kv_D := fun L st h v h' => match st with
  | .int y :: .int x :: r => F L (.int (x * y) :: r) h v h'
  | _ => False
theorem k_imul (d : decode cc pc = .ok (.imul, 1)) (k : kv_S cc nL own Ts ret ini fr lo sc (pc + 1) F) : kv_S cc nL own Ts ret ini fr lo sc pc (o_imul F) := kv_mk (fun L st h v h' hF => by
  unfold o_imul at hF
  split at hF
  · exact ⟨_, F, _, _, k, hF, fun p l e R s m args below meth c b S n0 z0 dC dI dA Q X ls H locs cells slots hc hs Y kk => lv_imul X.1 X.2.1 d (kk ls Y.1)⟩
  · exact hF.elim)
def o_iand (F : kv_D) : kv_D := fun L st h v h' => match st with
  | .int y :: .int x :: r => F L (.int (x &&& y) :: r) h v h'
  | _ => False
theorem k_iand (d : decode cc pc = .ok (.iand, 1)) (k : kv_S cc nL own Ts ret ini fr lo sc (pc + 1) F) : kv_S cc nL own Ts ret ini fr lo sc pc (o_iand F) := kv_mk (fun L st h v h' hF => by
  unfold o_iand at hF
  split at hF
  · exact ⟨_, F, _, _, k, hF, fun p l e R s m args below meth c b S n0 z0 dC dI dA Q X ls H locs cells slots hc hs Y kk => lv_iand X.1 X.2.1 d (kk ls Y.1)⟩
  · exact hF.elim)
def o_ior (F : kv_D) : kv_D := fun L st h v h' => match st with
  | .int y :: .int x :: r => F L (.int (x ||| y) :: r) h v h'
  | _ => False
theorem k_ior (d : decode cc pc = .ok (.ior, 1)) (k : kv_S cc nL own Ts ret ini fr lo sc (pc + 1) F) : kv_S cc nL own Ts ret ini fr lo sc pc (o_ior F) := kv_mk (fun L st h v h' hF => by
  unfold o_ior at hF
  split at hF
  · exact ⟨_, F, _, _, k, hF, fun p l e R s m args below meth c b S n0 z0 dC dI dA Q X ls H locs cells slots hc hs Y kk => lv_ior X.1 X.2.1 d (kk ls Y.1)⟩
  · exact hF.elim)
def o_ixor (F : kv_D) : kv_D := fun L st h v h' => match st with
  | .int y :: .int x :: r => F L (.int (x ^^^ y) :: r) h v h'
  | _ => False
theorem k_ixor (d : decode cc pc = .ok (.ixor, 1)) (k : kv_S cc nL own Ts ret ini fr lo sc (pc + 1) F) : kv_S cc nL own Ts ret ini fr lo sc pc (o_ixor F) := kv_mk (fun L st h v h' hF => by
  unfold o_ixor at hF
  split at hF
  · exact ⟨_, F, _, _, k, hF, fun p l e R s m args below meth c b S n0 z0 dC dI dA Q X ls H locs cells slots hc hs Y kk => lv_ixor X.1 X.2.1 d (kk ls Y.1)⟩
  · exact hF.elim)
def o_ishl (F : kv_D) : kv_D := fun L st h v h' => match st with
  | .int y :: .int x :: r => F L (.int (x <<< (y &&& 31)) :: r) h v h'
  | _ => False
theorem k_ishl (d : decode cc pc = .ok (.ishl, 1)) (k : kv_S cc nL own Ts ret ini fr lo sc (pc + 1) F) : kv_S cc nL own Ts ret ini fr lo sc pc (o_ishl F) := kv_mk (fun L st h v h' hF => by
  unfold o_ishl at hF
  split at hF
  · exact ⟨_, F, _, _, k, hF, fun p l e R s m args below meth c b S n0 z0 dC dI dA Q X ls H locs cells slots hc hs Y kk => lv_ishl X.1 X.2.1 d (kk ls Y.1)⟩
  · exact hF.elim)
def o_ishr (F : kv_D) : kv_D := fun L st h v h' => match st with
  | .int y :: .int x :: r => F L (.int (x >>> (y &&& 31)) :: r) h v h'
  | _ => False
theorem k_ishr (d : decode cc pc = .ok (.ishr, 1)) (k : kv_S cc nL own Ts ret ini fr lo sc (pc + 1) F) : kv_S cc nL own Ts ret ini fr lo sc pc (o_ishr F) := kv_mk (fun L st h v h' hF => by
  unfold o_ishr at hF
  split at hF
  · exact ⟨_, F, _, _, k, hF, fun p l e R s m args below meth c b S n0 z0 dC dI dA Q X ls H locs cells slots hc hs Y kk => lv_ishr X.1 X.2.1 d (kk ls Y.1)⟩
  · exact hF.elim)
def o_idiv (F : kv_D) : kv_D := fun L st h v h' => match st with
  | .int y :: .int x :: r => ¬ y = 0 ∧ F L (.int (x / y) :: r) h v h'
  | _ => False
theorem k_idiv (d : decode cc pc = .ok (.idiv, 1)) (k : kv_S cc nL own Ts ret ini fr lo sc (pc + 1) F) : kv_S cc nL own Ts ret ini fr lo sc pc (o_idiv F) := kv_mk (fun L st h v h' hF => by
  unfold o_idiv at hF
  split at hF
  · exact ⟨_, F, _, _, k, hF.2, fun p l e R s m args below meth c b S n0 z0 dC dI dA Q X ls H locs cells slots hc hs Y kk => lv_idiv X.1 X.2.1 d hF.1 (kk ls Y.1)⟩
  · exact hF.elim)
def o_irem (F : kv_D) : kv_D := fun L st h v h' => match st with
  | .int y :: .int x :: r => ¬ y = 0 ∧ F L (.int (x - x / y * y) :: r) h v h'
  | _ => False
theorem k_irem (d : decode cc pc = .ok (.irem, 1)) (k : kv_S cc nL own Ts ret ini fr lo sc (pc + 1) F) : kv_S cc nL own Ts ret ini fr lo sc pc (o_irem F) := kv_mk (fun L st h v h' hF => by
  unfold o_irem at hF
  split at hF
  · exact ⟨_, F, _, _, k, hF.2, fun p l e R s m args below meth c b S n0 z0 dC dI dA Q X ls H locs cells slots hc hs Y kk => lv_irem X.1 X.2.1 d hF.1 (kk ls Y.1)⟩
  · exact hF.elim)
def o_iushr (F : kv_D) : kv_D := fun L st h v h' => match st with
  | .int y :: .int x :: r => F L (.int ((x.toUInt32 >>> (y.toUInt32 &&& Int32.toUInt32 31)).toInt32) :: r) h v h'
  | _ => False
theorem k_iushr (d : decode cc pc = .ok (.iushr, 1)) (k : kv_S cc nL own Ts ret ini fr lo sc (pc + 1) F) : kv_S cc nL own Ts ret ini fr lo sc pc (o_iushr F) := kv_mk (fun L st h v h' hF => by
  unfold o_iushr at hF
  split at hF
  · exact ⟨_, F, _, _, k, hF, fun p l e R s m args below meth c b S n0 z0 dC dI dA Q X ls H locs cells slots hc hs Y kk => lv_iushr X.1 X.2.1 d rfl (kk ls Y.1)⟩
  · exact hF.elim)
def o_ineg (F : kv_D) : kv_D := fun L st h v h' => match st with
  | .int x :: r => F L (.int (-x) :: r) h v h'
  | _ => False
theorem k_ineg (d : decode cc pc = .ok (.ineg, 1)) (k : kv_S cc nL own Ts ret ini fr lo sc (pc + 1) F) : kv_S cc nL own Ts ret ini fr lo sc pc (o_ineg F) := kv_mk (fun L st h v h' hF => by
  unfold o_ineg at hF
  split at hF
  · exact ⟨_, F, _, _, k, hF, fun p l e R s m args below meth c b S n0 z0 dC dI dA Q X ls H locs cells slots hc hs Y kk => lv_ineg X.1 X.2.1 d (kk ls Y.1)⟩
  · exact hF.elim)
def o_i2c (F : kv_D) : kv_D := fun L st h v h' => match st with
  | .int x :: r => F L (.int ((x.toUInt32 % 65536).toInt32) :: r) h v h'
  | _ => False
theorem k_i2c (d : decode cc pc = .ok (.i2c, 1)) (k : kv_S cc nL own Ts ret ini fr lo sc (pc + 1) F) : kv_S cc nL own Ts ret ini fr lo sc pc (o_i2c F) := kv_mk (fun L st h v h' hF => by
  unfold o_i2c at hF
  split at hF
  · exact ⟨_, F, _, _, k, hF, fun p l e R s m args below meth c b S n0 z0 dC dI dA Q X ls H locs cells slots hc hs Y kk => lv_i2c X.1 X.2.1 d rfl (kk ls Y.1)⟩
  · exact hF.elim)
def o_dup (F : kv_D) : kv_D := fun L st h v h' => match st with
  | x :: r => x.category = 1 ∧ F L (x :: x :: r) h v h'
  | _ => False
def o_pop (F : kv_D) : kv_D := fun L st h v h' => match st with
  | x :: r => x.category = 1 ∧ F L r h v h'
  | _ => False
def o_dup_x1 (F : kv_D) : kv_D := fun L st h v h' => match st with
  | x :: y :: r => (x.category = 1 ∧ y.category = 1) ∧ F L (x :: y :: x :: r) h v h'
  | _ => False
def o_dup_x2 (F : kv_D) : kv_D := fun L st h v h' => match st with
  | x :: y :: z :: r => (x.category = 1 ∧ y.category = 1 ∧ z.category = 1) ∧ F L (x :: y :: z :: x :: r) h v h'
  | _ => False
def o_dup2 (F : kv_D) : kv_D := fun L st h v h' => match st with
  | x :: y :: r => (x.category = 1 ∧ y.category = 1) ∧ F L (x :: y :: x :: y :: r) h v h'
  | _ => False
theorem k_dup (d : decode cc pc = .ok (.dup, 1)) (k : kv_S cc nL own Ts ret ini fr lo sc (pc + 1) F) : kv_S cc nL own Ts ret ini fr lo sc pc (o_dup F) := kv_mk (fun L st h v h' hF => by
  unfold o_dup at hF
  split at hF
  · exact ⟨_, F, _, _, k, hF.2, fun p l e R s m args below meth c b S n0 z0 dC dI dA Q X ls H locs cells slots hc hs Y kk => lv_dup X.1 X.2.1 d (by rw [kv_cat]; exact hF.1) (kk ls Y.1)⟩
  · exact hF.elim)
theorem k_pop (d : decode cc pc = .ok (.pop, 1)) (k : kv_S cc nL own Ts ret ini fr lo sc (pc + 1) F) : kv_S cc nL own Ts ret ini fr lo sc pc (o_pop F) := kv_mk (fun L st h v h' hF => by
  unfold o_pop at hF
  split at hF
  · exact ⟨_, F, _, _, k, hF.2, fun p l e R s m args below meth c b S n0 z0 dC dI dA Q X ls H locs cells slots hc hs Y kk => lv_pop X.1 X.2.1 d (by rw [kv_cat]; exact hF.1) (kk ls Y.1)⟩
  · exact hF.elim)
theorem k_dup_x1 (d : decode cc pc = .ok (.dup_x1, 1)) (k : kv_S cc nL own Ts ret ini fr lo sc (pc + 1) F) : kv_S cc nL own Ts ret ini fr lo sc pc (o_dup_x1 F) := kv_mk (fun L st h v h' hF => by
  unfold o_dup_x1 at hF
  split at hF
  · exact ⟨_, F, _, _, k, hF.2, fun p l e R s m args below meth c b S n0 z0 dC dI dA Q X ls H locs cells slots hc hs Y kk => lv_dup_x1 X.1 X.2.1 d (by rw [kv_cat]; exact hF.1.1) (by rw [kv_cat]; exact hF.1.2) (kk ls Y.1)⟩
  · exact hF.elim)
theorem k_dup_x2 (d : decode cc pc = .ok (.dup_x2, 1)) (k : kv_S cc nL own Ts ret ini fr lo sc (pc + 1) F) : kv_S cc nL own Ts ret ini fr lo sc pc (o_dup_x2 F) := kv_mk (fun L st h v h' hF => by
  unfold o_dup_x2 at hF
  split at hF
  · exact ⟨_, F, _, _, k, hF.2, fun p l e R s m args below meth c b S n0 z0 dC dI dA Q X ls H locs cells slots hc hs Y kk => lv_dup_x2 X.1 X.2.1 d (by rw [kv_cat]; exact hF.1.1) (by rw [kv_cat]; exact hF.1.2.1) (by rw [kv_cat]; exact hF.1.2.2) (kk ls Y.1)⟩
  · exact hF.elim)
theorem k_dup2 (d : decode cc pc = .ok (.dup2, 1)) (k : kv_S cc nL own Ts ret ini fr lo sc (pc + 1) F) : kv_S cc nL own Ts ret ini fr lo sc pc (o_dup2 F) := kv_mk (fun L st h v h' hF => by
  unfold o_dup2 at hF
  split at hF
  · exact ⟨_, F, _, _, k, hF.2, fun p l e R s m args below meth c b S n0 z0 dC dI dA Q X ls H locs cells slots hc hs Y kk => lv_dup2_11 X.1 X.2.1 d (by rw [kv_cat]; exact hF.1.1) (by rw [kv_cat]; exact hF.1.2) (kk ls Y.1)⟩
  · exact hF.elim)
def o_ifeq (F G : kv_D) : kv_D := fun L st h v h' => match st with
  | .int x :: r => if x = 0 then F L r h v h' else G L r h v h'
  | _ => False
theorem k_ifeq {off : Int} {t : Nat} (d : decode cc pc = .ok (.ifCond .eq off, 3)) (ht : (pc : Int) + off = (t : Int)) (kt : kv_S cc nL own Ts ret ini fr lo sc t F) (k : kv_S cc nL own Ts ret ini fr lo sc (pc + 3) G) : kv_S cc nL own Ts ret ini fr lo sc pc (o_ifeq F G) := kv_mk (fun L st h v h' hF => by
  unfold o_ifeq at hF
  split at hF
  · split at hF
    · rename_i hx
      exact ⟨_, F, _, _, kt, hF, fun p l e R s m args below meth c b S n0 z0 dC dI dA Q X ls H locs cells slots hc hs Y kk => lv_if_eq X.1 X.2.1 d ht (fun _ => kk ls Y.1) (fun q => absurd hx q)⟩
    · rename_i hx
      exact ⟨_, G, _, _, k, hF, fun p l e R s m args below meth c b S n0 z0 dC dI dA Q X ls H locs cells slots hc hs Y kk => lv_if_eq X.1 X.2.1 d ht (fun q => absurd q hx) (fun _ => kk ls Y.1)⟩
  · exact hF.elim)
def o_ifne (F G : kv_D) : kv_D := fun L st h v h' => match st with
  | .int x :: r => if ¬ x = 0 then F L r h v h' else G L r h v h'
  | _ => False
theorem k_ifne {off : Int} {t : Nat} (d : decode cc pc = .ok (.ifCond .ne off, 3)) (ht : (pc : Int) + off = (t : Int)) (kt : kv_S cc nL own Ts ret ini fr lo sc t F) (k : kv_S cc nL own Ts ret ini fr lo sc (pc + 3) G) : kv_S cc nL own Ts ret ini fr lo sc pc (o_ifne F G) := kv_mk (fun L st h v h' hF => by
  unfold o_ifne at hF
  split at hF
  · split at hF
    · rename_i hx
      exact ⟨_, F, _, _, kt, hF, fun p l e R s m args below meth c b S n0 z0 dC dI dA Q X ls H locs cells slots hc hs Y kk => lv_if_ne X.1 X.2.1 d ht (fun _ => kk ls Y.1) (fun q => absurd q hx)⟩
    · rename_i hx
      exact ⟨_, G, _, _, k, hF, fun p l e R s m args below meth c b S n0 z0 dC dI dA Q X ls H locs cells slots hc hs Y kk => lv_if_ne X.1 X.2.1 d ht (fun q => absurd q hx) (fun _ => kk ls Y.1)⟩
  · exact hF.elim)
def o_iflt (F G : kv_D) : kv_D := fun L st h v h' => match st with
  | .int x :: r => if x < 0 then F L r h v h' else G L r h v h'
  | _ => False
theorem k_iflt {off : Int} {t : Nat} (d : decode cc pc = .ok (.ifCond .lt off, 3)) (ht : (pc : Int) + off = (t : Int)) (kt : kv_S cc nL own Ts ret ini fr lo sc t F) (k : kv_S cc nL own Ts ret ini fr lo sc (pc + 3) G) : kv_S cc nL own Ts ret ini fr lo sc pc (o_iflt F G) := kv_mk (fun L st h v h' hF => by
  unfold o_iflt at hF
  split at hF
  · split at hF
    · rename_i hx
      exact ⟨_, F, _, _, kt, hF, fun p l e R s m args below meth c b S n0 z0 dC dI dA Q X ls H locs cells slots hc hs Y kk => lv_if_lt X.1 X.2.1 d ht (fun _ => kk ls Y.1) (fun q => absurd hx q)⟩
    · rename_i hx
      exact ⟨_, G, _, _, k, hF, fun p l e R s m args below meth c b S n0 z0 dC dI dA Q X ls H locs cells slots hc hs Y kk => lv_if_lt X.1 X.2.1 d ht (fun q => absurd q hx) (fun _ => kk ls Y.1)⟩
  · exact hF.elim)
def o_ifge (F G : kv_D) : kv_D := fun L st h v h' => match st with
  | .int x :: r => if 0 ≤ x then F L r h v h' else G L r h v h'
  | _ => False
theorem k_ifge {off : Int} {t : Nat} (d : decode cc pc = .ok (.ifCond .ge off, 3)) (ht : (pc : Int) + off = (t : Int)) (kt : kv_S cc nL own Ts ret ini fr lo sc t F) (k : kv_S cc nL own Ts ret ini fr lo sc (pc + 3) G) : kv_S cc nL own Ts ret ini fr lo sc pc (o_ifge F G) := kv_mk (fun L st h v h' hF => by
  unfold o_ifge at hF
  split at hF
  · split at hF
    · rename_i hx
      exact ⟨_, F, _, _, kt, hF, fun p l e R s m args below meth c b S n0 z0 dC dI dA Q X ls H locs cells slots hc hs Y kk => lv_if_ge X.1 X.2.1 d ht (fun _ => kk ls Y.1) (fun q => absurd hx q)⟩
    · rename_i hx
      exact ⟨_, G, _, _, k, hF, fun p l e R s m args below meth c b S n0 z0 dC dI dA Q X ls H locs cells slots hc hs Y kk => lv_if_ge X.1 X.2.1 d ht (fun q => absurd q hx) (fun _ => kk ls Y.1)⟩
  · exact hF.elim)
def o_ifgt (F G : kv_D) : kv_D := fun L st h v h' => match st with
  | .int x :: r => if 0 < x then F L r h v h' else G L r h v h'
  | _ => False
theorem k_ifgt {off : Int} {t : Nat} (d : decode cc pc = .ok (.ifCond .gt off, 3)) (ht : (pc : Int) + off = (t : Int)) (kt : kv_S cc nL own Ts ret ini fr lo sc t F) (k : kv_S cc nL own Ts ret ini fr lo sc (pc + 3) G) : kv_S cc nL own Ts ret ini fr lo sc pc (o_ifgt F G) := kv_mk (fun L st h v h' hF => by
  unfold o_ifgt at hF
  split at hF
  · split at hF
    · rename_i hx
      exact ⟨_, F, _, _, kt, hF, fun p l e R s m args below meth c b S n0 z0 dC dI dA Q X ls H locs cells slots hc hs Y kk => lv_if_gt X.1 X.2.1 d ht (fun _ => kk ls Y.1) (fun q => absurd hx q)⟩
    · rename_i hx
      exact ⟨_, G, _, _, k, hF, fun p l e R s m args below meth c b S n0 z0 dC dI dA Q X ls H locs cells slots hc hs Y kk => lv_if_gt X.1 X.2.1 d ht (fun q => absurd q hx) (fun _ => kk ls Y.1)⟩
  · exact hF.elim)
def o_ifle (F G : kv_D) : kv_D := fun L st h v h' => match st with
  | .int x :: r => if x ≤ 0 then F L r h v h' else G L r h v h'
  | _ => False
theorem k_ifle {off : Int} {t : Nat} (d : decode cc pc = .ok (.ifCond .le off, 3)) (ht : (pc : Int) + off = (t : Int)) (kt : kv_S cc nL own Ts ret ini fr lo sc t F) (k : kv_S cc nL own Ts ret ini fr lo sc (pc + 3) G) : kv_S cc nL own Ts ret ini fr lo sc pc (o_ifle F G) := kv_mk (fun L st h v h' hF => by
  unfold o_ifle at hF
  split at hF
  · split at hF
    · rename_i hx
      exact ⟨_, F, _, _, kt, hF, fun p l e R s m args below meth c b S n0 z0 dC dI dA Q X ls H locs cells slots hc hs Y kk => lv_if_le X.1 X.2.1 d ht (fun _ => kk ls Y.1) (fun q => absurd hx q)⟩
    · rename_i hx
      exact ⟨_, G, _, _, k, hF, fun p l e R s m args below meth c b S n0 z0 dC dI dA Q X ls H locs cells slots hc hs Y kk => lv_if_le X.1 X.2.1 d ht (fun q => absurd q hx) (fun _ => kk ls Y.1)⟩
  · exact hF.elim)
def o_iceq (F G : kv_D) : kv_D := fun L st h v h' => match st with
  | .int y :: .int x :: r => if x = y then F L r h v h' else G L r h v h'
  | _ => False
theorem k_iceq {off : Int} {t : Nat} (d : decode cc pc = .ok (.if_icmp .eq off, 3)) (ht : (pc : Int) + off = (t : Int)) (kt : kv_S cc nL own Ts ret ini fr lo sc t F) (k : kv_S cc nL own Ts ret ini fr lo sc (pc + 3) G) : kv_S cc nL own Ts ret ini fr lo sc pc (o_iceq F G) := kv_mk (fun L st h v h' hF => by
  unfold o_iceq at hF
  split at hF
  · split at hF
    · rename_i hx
      exact ⟨_, F, _, _, kt, hF, fun p l e R s m args below meth c b S n0 z0 dC dI dA Q X ls H locs cells slots hc hs Y kk => lv_icmp_eq X.1 X.2.1 d ht (fun _ => kk ls Y.1) (fun q => absurd hx q)⟩
    · rename_i hx
      exact ⟨_, G, _, _, k, hF, fun p l e R s m args below meth c b S n0 z0 dC dI dA Q X ls H locs cells slots hc hs Y kk => lv_icmp_eq X.1 X.2.1 d ht (fun q => absurd q hx) (fun _ => kk ls Y.1)⟩
  · exact hF.elim)
def o_icne (F G : kv_D) : kv_D := fun L st h v h' => match st with
  | .int y :: .int x :: r => if ¬ x = y then F L r h v h' else G L r h v h'
  | _ => False
theorem k_icne {off : Int} {t : Nat} (d : decode cc pc = .ok (.if_icmp .ne off, 3)) (ht : (pc : Int) + off = (t : Int)) (kt : kv_S cc nL own Ts ret ini fr lo sc t F) (k : kv_S cc nL own Ts ret ini fr lo sc (pc + 3) G) : kv_S cc nL own Ts ret ini fr lo sc pc (o_icne F G) := kv_mk (fun L st h v h' hF => by
  unfold o_icne at hF
  split at hF
  · split at hF
    · rename_i hx
      exact ⟨_, F, _, _, kt, hF, fun p l e R s m args below meth c b S n0 z0 dC dI dA Q X ls H locs cells slots hc hs Y kk => lv_icmp_ne X.1 X.2.1 d ht (fun _ => kk ls Y.1) (fun q => absurd q hx)⟩
    · rename_i hx
      exact ⟨_, G, _, _, k, hF, fun p l e R s m args below meth c b S n0 z0 dC dI dA Q X ls H locs cells slots hc hs Y kk => lv_icmp_ne X.1 X.2.1 d ht (fun q => absurd q hx) (fun _ => kk ls Y.1)⟩
  · exact hF.elim)
def o_iclt (F G : kv_D) : kv_D := fun L st h v h' => match st with
  | .int y :: .int x :: r => if x < y then F L r h v h' else G L r h v h'
  | _ => False
theorem k_iclt {off : Int} {t : Nat} (d : decode cc pc = .ok (.if_icmp .lt off, 3)) (ht : (pc : Int) + off = (t : Int)) (kt : kv_S cc nL own Ts ret ini fr lo sc t F) (k : kv_S cc nL own Ts ret ini fr lo sc (pc + 3) G) : kv_S cc nL own Ts ret ini fr lo sc pc (o_iclt F G) := kv_mk (fun L st h v h' hF => by
  unfold o_iclt at hF
  split at hF
  · split at hF
    · rename_i hx
      exact ⟨_, F, _, _, kt, hF, fun p l e R s m args below meth c b S n0 z0 dC dI dA Q X ls H locs cells slots hc hs Y kk => lv_icmp_lt X.1 X.2.1 d ht (fun _ => kk ls Y.1) (fun q => absurd hx q)⟩
    · rename_i hx
      exact ⟨_, G, _, _, k, hF, fun p l e R s m args below meth c b S n0 z0 dC dI dA Q X ls H locs cells slots hc hs Y kk => lv_icmp_lt X.1 X.2.1 d ht (fun q => absurd q hx) (fun _ => kk ls Y.1)⟩
  · exact hF.elim)
def o_icge (F G : kv_D) : kv_D := fun L st h v h' => match st with
  | .int y :: .int x :: r => if y ≤ x then F L r h v h' else G L r h v h'
  | _ => False
theorem k_icge {off : Int} {t : Nat} (d : decode cc pc = .ok (.if_icmp .ge off, 3)) (ht : (pc : Int) + off = (t : Int)) (kt : kv_S cc nL own Ts ret ini fr lo sc t F) (k : kv_S cc nL own Ts ret ini fr lo sc (pc + 3) G) : kv_S cc nL own Ts ret ini fr lo sc pc (o_icge F G) := kv_mk (fun L st h v h' hF => by
  unfold o_icge at hF
  split at hF
  · split at hF
    · rename_i hx
      exact ⟨_, F, _, _, kt, hF, fun p l e R s m args below meth c b S n0 z0 dC dI dA Q X ls H locs cells slots hc hs Y kk => lv_icmp_ge X.1 X.2.1 d ht (fun _ => kk ls Y.1) (fun q => absurd hx q)⟩
    · rename_i hx
      exact ⟨_, G, _, _, k, hF, fun p l e R s m args below meth c b S n0 z0 dC dI dA Q X ls H locs cells slots hc hs Y kk => lv_icmp_ge X.1 X.2.1 d ht (fun q => absurd q hx) (fun _ => kk ls Y.1)⟩
  · exact hF.elim)
def o_icgt (F G : kv_D) : kv_D := fun L st h v h' => match st with
  | .int y :: .int x :: r => if y < x then F L r h v h' else G L r h v h'
  | _ => False
theorem k_icgt {off : Int} {t : Nat} (d : decode cc pc = .ok (.if_icmp .gt off, 3)) (ht : (pc : Int) + off = (t : Int)) (kt : kv_S cc nL own Ts ret ini fr lo sc t F) (k : kv_S cc nL own Ts ret ini fr lo sc (pc + 3) G) : kv_S cc nL own Ts ret ini fr lo sc pc (o_icgt F G) := kv_mk (fun L st h v h' hF => by
  unfold o_icgt at hF
  split at hF
  · split at hF
    · rename_i hx
      exact ⟨_, F, _, _, kt, hF, fun p l e R s m args below meth c b S n0 z0 dC dI dA Q X ls H locs cells slots hc hs Y kk => lv_icmp_gt X.1 X.2.1 d ht (fun _ => kk ls Y.1) (fun q => absurd hx q)⟩
    · rename_i hx
      exact ⟨_, G, _, _, k, hF, fun p l e R s m args below meth c b S n0 z0 dC dI dA Q X ls H locs cells slots hc hs Y kk => lv_icmp_gt X.1 X.2.1 d ht (fun q => absurd q hx) (fun _ => kk ls Y.1)⟩
  · exact hF.elim)
def o_icle (F G : kv_D) : kv_D := fun L st h v h' => match st with
  | .int y :: .int x :: r => if x ≤ y then F L r h v h' else G L r h v h'
  | _ => False
theorem k_icle {off : Int} {t : Nat} (d : decode cc pc = .ok (.if_icmp .le off, 3)) (ht : (pc : Int) + off = (t : Int)) (kt : kv_S cc nL own Ts ret ini fr lo sc t F) (k : kv_S cc nL own Ts ret ini fr lo sc (pc + 3) G) : kv_S cc nL own Ts ret ini fr lo sc pc (o_icle F G) := kv_mk (fun L st h v h' hF => by
  unfold o_icle at hF
  split at hF
  · split at hF
    · rename_i hx
      exact ⟨_, F, _, _, kt, hF, fun p l e R s m args below meth c b S n0 z0 dC dI dA Q X ls H locs cells slots hc hs Y kk => lv_icmp_le X.1 X.2.1 d ht (fun _ => kk ls Y.1) (fun q => absurd hx q)⟩
    · rename_i hx
      exact ⟨_, G, _, _, k, hF, fun p l e R s m args below meth c b S n0 z0 dC dI dA Q X ls H locs cells slots hc hs Y kk => lv_icmp_le X.1 X.2.1 d ht (fun q => absurd q hx) (fun _ => kk ls Y.1)⟩
  · exact hF.elim)
theorem k_goto {off : Int} {t : Nat} (d : decode cc pc = .ok (.goto off, 3)) (ht : (pc : Int) + off = (t : Int)) (kt : kv_S cc nL own Ts ret ini fr lo sc t F) : kv_S cc nL own Ts ret ini fr lo sc pc F := kv_mk (fun L st h v h' hF => ⟨_, F, _, _, kt, hF, fun p l e R s m args below meth c b S n0 z0 dC dI dA Q X ls H locs cells slots hc hs Y kk => lv_goto X.1 X.2.1 d ht (kk ls Y.1)⟩)
def o_ret : kv_D := fun L st h v h' => st = [] ∧ v = none ∧ h' = h
theorem k_ret (d : decode cc pc = .ok (.return_, 1)) (hr : ret = none) : kv_S cc nL own Ts ret ini fr lo sc pc o_ret := by
  intro L st h v h' hF
  obtain ⟨rfl, rfl, rfl⟩ := hF
  refine ⟨⟨Nat.le_refl _, Nat.le_refl _⟩, ?_⟩
  intro p l e R s m args below meth c b S n0 z0 dC dI dA Q X hc hz kr ls H locs cells slots Y
  exact kr pc ls L H locs cells slots (Or.inl ⟨rfl, hr, d⟩) Y
def o_iret (ty : FieldType) : kv_D := fun L st h v h' => match st with
  | [.int x] => narrow ty (.int x) = .int x ∧ v = some (.int x) ∧ h' = h
  | _ => False
theorem k_iret {ty : FieldType} (d : decode cc pc = .ok (.ireturn, 1)) (hr : ret = some ty) : kv_S cc nL own Ts ret ini fr lo sc pc (o_iret ty) := by
  intro L st h v h' hF
  unfold o_iret at hF
  split at hF
  · rename_i x
    obtain ⟨hn, rfl, rfl⟩ := hF
    refine ⟨⟨Nat.le_refl _, Nat.le_refl _⟩, ?_⟩
    intro p l e R s m args below meth c b S n0 z0 dC dI dA Q X hc hz kr ls H locs cells slots Y
    exact kr pc ls L H locs cells slots (Or.inr (Or.inl ⟨x, ty, rfl, hr, hn, d⟩)) Y
  · exact hF.elim
def o_aret : kv_D := fun L st h v h' => match st with
  | [.ref x] => v = some (.ref x) ∧ h' = h
  | _ => False
theorem k_aret {ty : FieldType} (d : decode cc pc = .ok (.areturn, 1)) (hr : ret = some ty) (ho : (∃ n, ty = .object n) ∨ ∃ t, ty = .array t) : kv_S cc nL own Ts ret ini fr lo sc pc o_aret := by
  intro L st h v h' hF
  unfold o_aret at hF
  split at hF
  · rename_i x
    obtain ⟨rfl, rfl⟩ := hF
    refine ⟨⟨Nat.le_refl _, Nat.le_refl _⟩, ?_⟩
    intro p l e R s m args below meth c b S n0 z0 dC dI dA Q X hc hz kr ls H locs cells slots Y
    exact kr pc ls L H locs cells slots (Or.inr (Or.inr ⟨x, ty, rfl, hr, ho, d⟩)) Y
  · exact hF.elim
def o_max (F : kv_D) : kv_D := fun L st h v h' => match st with
  | .int y :: .int x :: r => ((r.map fun v => v.category).sum + 13 ≤ 21) ∧ F L (.int (if x < y then y else x) :: r) h v h'
  | _ => False
theorem k_max {index : Nat} (d : decode cc pc = .ok (.invokestatic index, 3)) (h1 : Cond.methodLink own index Lib.Math.max.name ∈ Ts) (h2 : Cond.static Lib.Math.max.name ∈ Ts) (h3 : Cond.initialized "java/lang/Math" ∈ Ts) (h4 : Cond.code Lib.Math.max.name Lib.Math.max.code 2 (some .int) ∈ Ts) (hfr : 1 ≤ fr) (hlo : 21 ≤ lo) (k : kv_S cc nL own Ts ret ini fr lo sc (pc + 3) F) : kv_S cc nL own Ts ret ini fr lo sc pc (o_max F) := kv_mk (fun L st h v h' hF => by
  unfold o_max at hF
  split at hF
  · refine ⟨_, F, _, _, k, hF.2, fun p l e R s m args below meth c b S n0 z0 dC dI dA Q X ls H locs cells slots hc hs Y kk => ?_⟩
    have hx := X.2.2.2.2.1
    exact va_mmax X.1 X.2.1 (X.2.2.1.trans Y.1.1.symm) X.2.2.2.1 (hx _ h1) (hx _ h2) (hx _ h3) (hx _ h4) (Nat.le_trans hfr X.2.2.2.2.2.2.2.1) (by have := X.2.2.2.2.2.2.2.2.1; rw [kv_cats]; omega) hc hs d (kk ls Y.1)
  · exact hF.elim)
def o_sld (N : Nat) (xs : Nat → Int32) (F : kv_D) : kv_D := fun L st h v h' => match st with
  | .int i :: .ref 0 :: r => (0 ≤ i ∧ i.toNatClampNeg < N) ∧ F L (.int (xs i.toNatClampNeg) :: r) h v h'
  | _ => False
theorem kv_in_of {i : Int32} {n : Nat} (h : 0 ≤ i ∧ i.toNatClampNeg < n) : vp_in i n := fun q => by
  rcases q with q | q
  · exact absurd h.1 (Int32.not_le.mpr q)
  · omega
theorem k_sld {N : Nat} {xs : Nat → Int32} (d : decode cc pc = .ok (.iaload, 1)) (hsc : sc = some (N, xs)) (k : kv_S cc nL own Ts ret ini fr lo sc (pc + 1) F) : kv_S cc nL own Ts ret ini fr lo sc pc (o_sld N xs F) := kv_mk (fun L st h v h' hF => by
  unfold o_sld at hF
  split at hF
  · refine ⟨_, F, _, _, k, hF.2, fun p l e R s m args below meth c b S n0 z0 dC dI dA Q X ls H locs cells slots hc hs Y kk => ?_⟩
    obtain ⟨x1, x2, x3⟩ := X.2.2.2.2.2.2.2.2.2.2.2 N xs hsc
    exact va_sld (A := fun q => S ≤ q) X.1 X.2.1 x1 x2 (Nat.not_le.mpr x3) Y.2.2.2.1 (kv_in_of hF.1) d (kk ls Y.1)
  · exact hF.elim)
def o_slen (N : Nat) (F : kv_D) : kv_D := fun L st h v h' => match st with
  | .ref 0 :: r => F L (.int (Int32.ofNat N) :: r) h v h'
  | _ => False
theorem k_slen {N : Nat} {xs : Nat → Int32} (d : decode cc pc = .ok (.arraylength, 1)) (hsc : sc = some (N, xs)) (k : kv_S cc nL own Ts ret ini fr lo sc (pc + 1) F) : kv_S cc nL own Ts ret ini fr lo sc pc (o_slen N F) := kv_mk (fun L st h v h' hF => by
  unfold o_slen at hF
  split at hF
  · refine ⟨_, F, _, _, k, hF, fun p l e R s m args below meth c b S n0 z0 dC dI dA Q X ls H locs cells slots hc hs Y kk => ?_⟩
    obtain ⟨x1, x2, x3⟩ := X.2.2.2.2.2.2.2.2.2.2.2 N xs hsc
    exact va_slen (A := fun q => S ≤ q) X.1 X.2.1 x1 x2 (Nat.not_le.mpr x3) Y.2.2.2.1 d (kk ls Y.1)
  · exact hF.elim)
end KVB
end
section
section KVC
theorem kv_RA_inj {U : State} {c1 c2 : ClassId} {ty : FieldType} (h1 : va_RA U c1 ty) (h2 : va_RA U c2 ty) : c1 = c2 := by
  cases ty with
  | object C =>
    obtain ⟨_, _, -, -, -, g1⟩ := h1
    obtain ⟨_, _, -, -, -, g2⟩ := h2
    exact Option.some.inj (g1.symm.trans g2)
  | _ => exact Option.some.inj (Eq.trans (Eq.symm h1) h2)
theorem kv_rf (b S : Nat) (r : Option Nat) : kv_v b S (va_rf r) = va_rf (r.map (kv_a b S)) := by cases r <;> rfl
theorem kv_Y_put {nL b S n0 z0 : Nat} {dC : Nat → ClassId} {dI : Nat → Nat → Nat} {dA : Nat → ClassId} {s : State} {L L' : List (Option Value)} {h h1 : kv_H} {ls ls' : Array Slot} {H H1 : Heap} {locs locs1 : List Loc} {cells slots : Nat} (hsz : s.heap.size = S + n0) (Y : kv_Y nL b S n0 z0 dC dI dA s L h ls H locs cells slots) (he : h1.2 = h.2) (hl : kv_L b S ls' nL L') (hP1 : va_P (dC, dI) vwCl (kv_w b S dA h1) H1) (hS1 : va_S (fun q => S ≤ q) H H1 locs1) (hb : H1.size ≤ s.heap.size + cells) : kv_Y nL b S n0 z0 dC dI dA s L' h1 ls' H1 locs1 cells slots := by
  obtain ⟨y1, y2, y3, y4, y5, y6⟩ := Y
  have g1 := hS1.1
  refine ⟨hl, hP1, by rw [he]; omega, ⟨Nat.le_trans y4.1 hS1.1, fun q q1 q2 => ?_, hS1.2.2⟩, by rw [he]; exact y5, by rw [he]; exact y6⟩
  rw [hS1.2.1 q (Nat.lt_of_lt_of_le q1 y4.1) q2]
  exact y4.2.1 q q1 q2
theorem kv_self {S : Nat} {H0 H : Heap} {locs : List Loc} (h : va_S (fun q => S ≤ q) H0 H locs) : va_S (fun q => S ≤ q) H H locs := ⟨Nat.le_refl _, fun _ _ _ => rfl, h.2.2⟩
theorem kv_new_q {b S : Nat} {dC : Nat → ClassId} {dI : Nat → Nat → Nat} {dA : Nat → ClassId} {h : kv_H} {q n : Nat} {e : va_E} {H1 : Heap} (hP : va_P (dC, dI) vwCl (kv_w b S dA h ++ [(q, e)]) H1) (hD : va_D (fun q => S ≤ q) (kv_w b S dA h ++ [(q, e)])) (hn : H1.size ≤ n) (hm : n = S + h.2.1 + 1) : q = S + h.2.1 ∧ H1.size = S + (h.2.1 + 1) := by
  have hl : (kv_w b S dA h ++ [(q, e)])[h.2.1]? = some (q, e) := by
    rw [List.getElem?_append_right (by rw [kv_w_len]; exact Nat.le_refl _), kv_w_len]
    simp
  have h1 : q < H1.size := (hP _ _ hl).lt
  have h2 : S ≤ q := hD.2 _ _ hl
  have h3 : ¬ q < S + h.2.1 := by
    intro hlt
    have hk : (kv_w b S dA h ++ [(q, e)])[q - S]? = some (S + (q - S), kv_e b S dA (h.1 (q - S + 1))) := by
      rw [List.getElem?_append_left (by rw [kv_w_len]; omega)]
      unfold kv_w
      rw [List.getElem?_map, List.getElem?_range (by omega)]
      rfl
    have := hD.1 _ _ _ _ hk hl (by dsimp only; omega)
    omega
  omega
theorem kv_Y_new {nL b S n0 z0 : Nat} {dC : Nat → ClassId} {dI : Nat → Nat → Nat} {dA : Nat → ClassId} {s : State} {L : List (Option Value)} {h : kv_H} {ls : Array Slot} {H H1 : Heap} {locs : List Loc} {cells slots q z : Nat} {e : va_E} (hsz : s.heap.size = S + n0) (Y : kv_Y nL b S n0 z0 dC dI dA s L h ls H locs cells slots) (hP : va_P (dC, dI) vwCl (kv_w b S dA h ++ [(q, kv_e b S dA e)]) H1) (hD : va_D (fun q => S ≤ q) (kv_w b S dA h ++ [(q, kv_e b S dA e)])) (hS : va_S (fun q => S ≤ q) s.heap H1 locs) (hb : H1.size ≤ s.heap.size + (cells + 1)) : q = S + h.2.1 ∧ kv_Y nL b S n0 z0 dC dI dA s L (kv_n h e z) ls H1 locs (cells + 1) (slots + z) := by
  obtain ⟨y1, y2, y3, y4, y5, y6⟩ := Y
  obtain ⟨rfl, g2⟩ := kv_new_q hP hD hb (by omega)
  refine ⟨rfl, y1, ?_, g2, hS, ?_, ?_⟩
  · rw [kv_w_new]
    exact hP
  · show cells + 1 + n0 = h.2.1 + 1
    omega
  · show slots + z + z0 = h.2.2 + z
    omega
end KVC
section KVD
variable {cc : ByteArray} {nL : Nat} {own : String} {Ts : List Cond} {ret : Option FieldType} {ini : Bool} {fr lo : Nat} {sc : Option (Nat × (Nat → Int32))} {pc : Nat} {F G : kv_D}
def o_getf (ci kf : Nat) (F : kv_D) : kv_D := fun L st h v h' => match st with
  | .ref a :: r => match kv_g h a with
    | some (.inr q) => q.1 = ci ∧ ∃ x, q.2[kf]? = some x ∧ F L (x :: r) h v h'
    | _ => False
  | _ => False
def o_putf (ci kf : Nat) (ty : FieldType) (F : kv_D) : kv_D := fun L st h v h' => match st with
  | x :: .ref a :: r => match kv_g h a with
    | some (.inr q) => (q.1 = ci ∧ kf < q.2.length ∧ narrow ty x = x ∧ fits ty x = true) ∧ F L r (kv_p h a (.inr (ci, q.2.set kf x))) v h'
    | _ => False
  | _ => False
theorem k_getf {C : String} {T : u_T} {N ci index kf : Nat} (d : decode cc pc = .ok (.getfield index, 3)) (hcl : vwCl[ci]? = some (C, T, N)) (hin : ∀ w ∈ u_ws C T N, w ∈ Ts) (hk : kf < N) (hlink : Cond.fieldLink own index (T kf).1 (T kf).2.1 (T kf).2.2.1 ∈ Ts) (k : kv_S cc nL own Ts ret ini fr lo sc (pc + 3) F) : kv_S cc nL own Ts ret ini fr lo sc pc (o_getf ci kf F) := kv_mk (fun L st h v h' hF => by
  unfold o_getf at hF
  split at hF
  · rename_i a r
    split at hF
    · rename_i q hg
      obtain ⟨rfl, x, hx, hF⟩ := hF
      refine ⟨_, F, _, _, k, hF, fun p l e R s m args below meth c b S n0 z0 dC dI dA Q X ls H locs cells slots hc hs Y kk => ?_⟩
      exact va_get (D := (dC, dI)) (v := kv_v b S x) X.1 X.2.1 X.2.2.2.2.1 hin X.2.2.2.1 X.2.2.2.2.2.2.2.2.2.1.1 Y.2.1 (a - 1) (kv_w_get hg) hcl kf hk (X.2.2.2.2.1 _ hlink) (fun _ h9 => h9) (by rw [List.getElem?_map, hx]; rfl) d (kk ls Y.1)
    · exact hF.elim
  · exact hF.elim)
theorem k_getN {C : String} {T : u_T} {N ci index kf : Nat} {host : String} (d : decode cc pc = .ok (.getfield index, 3)) (hcl : vwCl[ci]? = some (C, T, N)) (hin : ∀ w ∈ u_ws C T N, w ∈ Ts) (hk : kf < N) (hlink : Cond.fieldLinkNest own index (T kf).1 (T kf).2.1 (T kf).2.2.1 host ∈ kv_nl) (k : kv_S cc nL own Ts ret ini fr lo sc (pc + 3) F) : kv_S cc nL own Ts ret ini fr lo sc pc (o_getf ci kf F) := kv_mk (fun L st h v h' hF => by
  unfold o_getf at hF
  split at hF
  · rename_i a r
    split at hF
    · rename_i q hg
      obtain ⟨rfl, x, hx, hF⟩ := hF
      refine ⟨_, F, _, _, k, hF, fun p l e R s m args below meth c b S n0 z0 dC dI dA Q X ls H locs cells slots hc hs Y kk => ?_⟩
      exact va_getN (D := (dC, dI)) (v := kv_v b S x) X.1 X.2.1 X.2.2.2.2.1 hin X.2.2.2.1 X.2.2.2.2.2.2.2.2.2.1.1 Y.2.1 (a - 1) (kv_w_get hg) hcl kf hk (va_Nw.use rfl (X.2.2.2.2.2.2.2.2.2.1.2 _ hlink)) (fun _ h9 => h9) (by rw [List.getElem?_map, hx]; rfl) d (kk ls Y.1)
    · exact hF.elim
  · exact hF.elim)
theorem k_putf {C : String} {T : u_T} {N ci index kf : Nat} {ty : FieldType} (d : decode cc pc = .ok (.putfield index, 3)) (hcl : vwCl[ci]? = some (C, T, N)) (hin : ∀ w ∈ u_ws C T N, w ∈ Ts) (ty0 : Nat → FieldType) (hty : ∀ k, k < N → parseFieldDescriptor (T k).2.2.1 = some (ty0 k)) (hnm : ∀ a, a < N → ∀ b, b < N → a ≠ b → (T a).2.1 ≠ (T b).2.1) (hk : kf < N) (hlink : Cond.fieldLink own index (T kf).1 (T kf).2.1 (T kf).2.2.1 ∈ Ts) (hfin : (T kf).2.2.2 = false) (hd : ty0 kf = ty) (k : kv_S cc nL own Ts ret ini fr lo sc (pc + 3) F) : kv_S cc nL own Ts ret ini fr lo sc pc (o_putf ci kf ty F) := by
  intro L st h v h' hF
  unfold o_putf at hF
  split at hF
  · rename_i x a r
    split at hF
    · rename_i q hg
      obtain ⟨⟨rfl, hl, hn, hfit⟩, hF⟩ := hF
      obtain ⟨mono, snd⟩ := k _ _ _ _ _ hF
      refine ⟨mono, ?_⟩
      intro p l e R s m args below meth c b S n0 z0 dC dI dA Q X hc hz kr ls H locs cells slots Y
      refine va_put (D := (dC, dI)) (A := fun q => S ≤ q) (H0 := H) (v := kv_v b S x) (ty := ty) X.1 X.2.1 X.2.2.2.2.1 hin ty0 hty hnm X.2.2.2.1 X.2.2.2.2.2.2.2.2.2.1.1 Y.2.1 (kv_w_D b S dA h) (kv_self Y.2.2.2.1) (a - 1) (kv_w_get hg) hcl kf hk (X.2.2.2.2.1 _ hlink) (fun _ h9 => h9) hfin (by rw [← hd]; exact hty kf hk) (kv_narrow hn) (kv_fits hfit) (by rw [List.length_map]; exact hl) d (fun H1 locs1 hP1 hD1 hS1 => ?_)
      refine kv_size (fun hz1 => ?_)
      rw [← List.map_set] at hP1
      exact snd p l e R s m args below meth c b S n0 z0 dC dI dA Q X hc hz kr ls H1 locs1 cells slots (kv_Y_put X.2.2.2.2.2.2.2.2.2.2.1 Y rfl Y.1 (by rw [← kv_w_set (.inr (q.1, q.2.set kf x)) hg]; exact hP1) hS1 hz1)
    · exact hF.elim
  · exact hF.elim
theorem k_putN {C : String} {T : u_T} {N ci index kf : Nat} {ty : FieldType} {host : String} (d : decode cc pc = .ok (.putfield index, 3)) (hcl : vwCl[ci]? = some (C, T, N)) (hin : ∀ w ∈ u_ws C T N, w ∈ Ts) (ty0 : Nat → FieldType) (hty : ∀ k, k < N → parseFieldDescriptor (T k).2.2.1 = some (ty0 k)) (hnm : ∀ a, a < N → ∀ b, b < N → a ≠ b → (T a).2.1 ≠ (T b).2.1) (hk : kf < N) (hlink : Cond.fieldLinkNest own index (T kf).1 (T kf).2.1 (T kf).2.2.1 host ∈ kv_nl) (hfin : (T kf).2.2.2 = false) (hd : ty0 kf = ty) (k : kv_S cc nL own Ts ret ini fr lo sc (pc + 3) F) : kv_S cc nL own Ts ret ini fr lo sc pc (o_putf ci kf ty F) := by
  intro L st h v h' hF
  unfold o_putf at hF
  split at hF
  · rename_i x a r
    split at hF
    · rename_i q hg
      obtain ⟨⟨rfl, hl, hn, hfit⟩, hF⟩ := hF
      obtain ⟨mono, snd⟩ := k _ _ _ _ _ hF
      refine ⟨mono, ?_⟩
      intro p l e R s m args below meth c b S n0 z0 dC dI dA Q X hc hz kr ls H locs cells slots Y
      refine va_putN (D := (dC, dI)) (A := fun q => S ≤ q) (H0 := H) (v := kv_v b S x) (ty := ty) X.1 X.2.1 X.2.2.2.2.1 hin ty0 hty hnm X.2.2.2.1 X.2.2.2.2.2.2.2.2.2.1.1 Y.2.1 (kv_w_D b S dA h) (kv_self Y.2.2.2.1) (a - 1) (kv_w_get hg) hcl kf hk (va_Nw.use rfl (X.2.2.2.2.2.2.2.2.2.1.2 _ hlink)) (fun _ h9 => h9) hfin (by rw [← hd]; exact hty kf hk) (kv_narrow hn) (kv_fits hfit) (by rw [List.length_map]; exact hl) d (fun H1 locs1 hP1 hD1 hS1 => ?_)
      refine kv_size (fun hz1 => ?_)
      rw [← List.map_set] at hP1
      exact snd p l e R s m args below meth c b S n0 z0 dC dI dA Q X hc hz kr ls H1 locs1 cells slots (kv_Y_put X.2.2.2.2.2.2.2.2.2.2.1 Y rfl Y.1 (by rw [← kv_w_set (.inr (q.1, q.2.set kf x)) hg]; exact hP1) hS1 hz1)
    · exact hF.elim
  · exact hF.elim
theorem k_putF {C : String} {T : u_T} {N ci index kf : Nat} {ty : FieldType} (d : decode cc pc = .ok (.putfield index, 3)) (hcl : vwCl[ci]? = some (C, T, N)) (hin : ∀ w ∈ u_ws C T N, w ∈ Ts) (ty0 : Nat → FieldType) (hty : ∀ k, k < N → parseFieldDescriptor (T k).2.2.1 = some (ty0 k)) (hnm : ∀ a, a < N → ∀ b, b < N → a ≠ b → (T a).2.1 ≠ (T b).2.1) (hk : kf < N) (hlink : Cond.fieldLink own index (T kf).1 (T kf).2.1 (T kf).2.2.1 ∈ Ts) (hfin : (T kf).2.2.2 = true) (hini : ini = true) (hdecl : (T kf).1 = own) (hd : ty0 kf = ty) (k : kv_S cc nL own Ts ret ini fr lo sc (pc + 3) F) : kv_S cc nL own Ts ret ini fr lo sc pc (o_putf ci kf ty F) := by
  intro L st h v h' hF
  unfold o_putf at hF
  split at hF
  · rename_i x a r
    split at hF
    · rename_i q hg
      obtain ⟨⟨rfl, hl, hn, hfit⟩, hF⟩ := hF
      obtain ⟨mono, snd⟩ := k _ _ _ _ _ hF
      refine ⟨mono, ?_⟩
      intro p l e R s m args below meth c b S n0 z0 dC dI dA Q X hc hz kr ls H locs cells slots Y
      refine va_putF (D := (dC, dI)) (A := fun q => S ≤ q) (H0 := H) (v := kv_v b S x) (ty := ty) X.1 X.2.1 X.2.2.2.2.1 hin ty0 hty hnm X.2.2.2.1 X.2.2.2.2.2.2.2.2.2.1.1 Y.2.1 (kv_w_D b S dA h) (kv_self Y.2.2.2.1) (a - 1) (kv_w_get hg) hcl kf hk (X.2.2.2.2.1 _ hlink) (fun _ h9 => h9) hfin (X.2.2.2.2.2.2.1 hini) hdecl (by rw [← hd]; exact hty kf hk) (kv_narrow hn) (kv_fits hfit) (by rw [List.length_map]; exact hl) d (fun H1 locs1 hP1 hD1 hS1 => ?_)
      refine kv_size (fun hz1 => ?_)
      rw [← List.map_set] at hP1
      exact snd p l e R s m args below meth c b S n0 z0 dC dI dA Q X hc hz kr ls H1 locs1 cells slots (kv_Y_put X.2.2.2.2.2.2.2.2.2.2.1 Y rfl Y.1 (by rw [← kv_w_set (.inr (q.1, q.2.set kf x)) hg]; exact hP1) hS1 hz1)
    · exact hF.elim
  · exact hF.elim
def o_iald (t : Nat) (F : kv_D) : kv_D := fun L st h v h' => match st with
  | .int i :: .ref a :: r => match kv_g h a with
    | some (.inl (t', n, .inl f)) => (t' = t ∧ 0 ≤ i ∧ i.toNatClampNeg < n) ∧ F L (.int (f i.toNatClampNeg) :: r) h v h'
    | _ => False
  | _ => False
def o_iast (t : Nat) (nar : Int32 → Int32) (F : kv_D) : kv_D := fun L st h v h' => match st with
  | .int x :: .int i :: .ref a :: r => match kv_g h a with
    | some (.inl (t', n, .inl f)) => (t' = t ∧ 0 ≤ i ∧ i.toNatClampNeg < n) ∧ F L r (kv_p h a (.inl (t, n, .inl (upd f i.toNatClampNeg (nar x))))) v h'
    | _ => False
  | _ => False
theorem k_iald {t : Nat} (d : decode cc pc = .ok (.iaload, 1)) (ht : kv_tl[t]? = some .int) (k : kv_S cc nL own Ts ret ini fr lo sc (pc + 1) F) : kv_S cc nL own Ts ret ini fr lo sc pc (o_iald t F) := kv_mk (fun L st h v h' hF => by
  unfold o_iald at hF
  split at hF
  · rename_i i a r
    split at hF
    · rename_i t' n f hg
      obtain ⟨⟨rfl, hi⟩, hF⟩ := hF
      refine ⟨_, F, _, _, k, hF, fun p l e R s m args below meth c b S n0 z0 dC dI dA Q X ls H locs cells slots hc hs Y kk => ?_⟩
      exact va_iald (D := (dC, dI)) X.1 X.2.1 X.2.2.2.2.2.2.2.2.2.1.1 Y.2.1 (a - 1) t' (kv_w_get hg) (kv_T_at ht) (kv_in_of hi) d (kk ls Y.1)
    · exact hF.elim
  · exact hF.elim)
theorem k_cald {t : Nat} (d : decode cc pc = .ok (.caload, 1)) (ht : kv_tl[t]? = some .char) (k : kv_S cc nL own Ts ret ini fr lo sc (pc + 1) F) : kv_S cc nL own Ts ret ini fr lo sc pc (o_iald t F) := kv_mk (fun L st h v h' hF => by
  unfold o_iald at hF
  split at hF
  · rename_i i a r
    split at hF
    · rename_i t' n f hg
      obtain ⟨⟨rfl, hi⟩, hF⟩ := hF
      refine ⟨_, F, _, _, k, hF, fun p l e R s m args below meth c b S n0 z0 dC dI dA Q X ls H locs cells slots hc hs Y kk => ?_⟩
      exact va_cald (D := (dC, dI)) X.1 X.2.1 X.2.2.2.2.2.2.2.2.2.1.1 Y.2.1 (a - 1) t' (kv_w_get hg) (kv_T_at ht) (kv_in_of hi) d (kk ls Y.1)
    · exact hF.elim
  · exact hF.elim)
theorem k_zald {t : Nat} (d : decode cc pc = .ok (.baload, 1)) (ht : kv_tl[t]? = some .boolean) (k : kv_S cc nL own Ts ret ini fr lo sc (pc + 1) F) : kv_S cc nL own Ts ret ini fr lo sc pc (o_iald t F) := kv_mk (fun L st h v h' hF => by
  unfold o_iald at hF
  split at hF
  · rename_i i a r
    split at hF
    · rename_i t' n f hg
      obtain ⟨⟨rfl, hi⟩, hF⟩ := hF
      refine ⟨_, F, _, _, k, hF, fun p l e R s m args below meth c b S n0 z0 dC dI dA Q X ls H locs cells slots hc hs Y kk => ?_⟩
      exact va_zald (D := (dC, dI)) X.1 X.2.1 X.2.2.2.2.2.2.2.2.2.1.1 Y.2.1 (a - 1) t' (kv_w_get hg) (kv_T_at ht) (kv_in_of hi) d (kk ls Y.1)
    · exact hF.elim
  · exact hF.elim)
theorem k_iast {t : Nat} (d : decode cc pc = .ok (.iastore, 1)) (ht : kv_tl[t]? = some .int) (k : kv_S cc nL own Ts ret ini fr lo sc (pc + 1) F) : kv_S cc nL own Ts ret ini fr lo sc pc (o_iast t (fun x => x) F) := by
  intro L st h v h' hF
  unfold o_iast at hF
  split at hF
  · rename_i x i a r
    split at hF
    · rename_i t' n f hg
      obtain ⟨⟨rfl, hi⟩, hF⟩ := hF
      obtain ⟨mono, snd⟩ := k _ _ _ _ _ hF
      refine ⟨mono, ?_⟩
      intro p l e R s m args below meth c b S n0 z0 dC dI dA Q X hc hz kr ls H locs cells slots Y
      refine va_iast (D := (dC, dI)) (A := fun q => S ≤ q) (H0 := H) X.1 X.2.1 X.2.2.2.2.2.2.2.2.2.1.1 Y.2.1 (kv_w_D b S dA h) (kv_self Y.2.2.2.1) (a - 1) t' (kv_w_get hg) (kv_T_at ht) (kv_in_of hi) d (fun H1 locs1 hP1 hD1 hS1 => ?_)
      refine kv_size (fun hz1 => ?_)
      exact snd p l e R s m args below meth c b S n0 z0 dC dI dA Q X hc hz kr ls H1 locs1 cells slots (kv_Y_put X.2.2.2.2.2.2.2.2.2.2.1 Y rfl Y.1 (by rw [← kv_w_set _ hg]; exact hP1) hS1 hz1)
    · exact hF.elim
  · exact hF.elim
theorem k_cast {t : Nat} (d : decode cc pc = .ok (.castore, 1)) (ht : kv_tl[t]? = some .char) (k : kv_S cc nL own Ts ret ini fr lo sc (pc + 1) F) : kv_S cc nL own Ts ret ini fr lo sc pc (o_iast t (vp_nar .char) F) := by
  intro L st h v h' hF
  unfold o_iast at hF
  split at hF
  · rename_i x i a r
    split at hF
    · rename_i t' n f hg
      obtain ⟨⟨rfl, hi⟩, hF⟩ := hF
      obtain ⟨mono, snd⟩ := k _ _ _ _ _ hF
      refine ⟨mono, ?_⟩
      intro p l e R s m args below meth c b S n0 z0 dC dI dA Q X hc hz kr ls H locs cells slots Y
      refine va_cast (D := (dC, dI)) (A := fun q => S ≤ q) (H0 := H) X.1 X.2.1 X.2.2.2.2.2.2.2.2.2.1.1 Y.2.1 (kv_w_D b S dA h) (kv_self Y.2.2.2.1) (a - 1) t' (kv_w_get hg) (kv_T_at ht) (kv_in_of hi) d (fun H1 locs1 hP1 hD1 hS1 => ?_)
      refine kv_size (fun hz1 => ?_)
      exact snd p l e R s m args below meth c b S n0 z0 dC dI dA Q X hc hz kr ls H1 locs1 cells slots (kv_Y_put X.2.2.2.2.2.2.2.2.2.2.1 Y rfl Y.1 (by rw [← kv_w_set _ hg]; exact hP1) hS1 hz1)
    · exact hF.elim
  · exact hF.elim
theorem k_zast {t : Nat} (d : decode cc pc = .ok (.bastore, 1)) (ht : kv_tl[t]? = some .boolean) (k : kv_S cc nL own Ts ret ini fr lo sc (pc + 1) F) : kv_S cc nL own Ts ret ini fr lo sc pc (o_iast t (vp_nar .boolean) F) := by
  intro L st h v h' hF
  unfold o_iast at hF
  split at hF
  · rename_i x i a r
    split at hF
    · rename_i t' n f hg
      obtain ⟨⟨rfl, hi⟩, hF⟩ := hF
      obtain ⟨mono, snd⟩ := k _ _ _ _ _ hF
      refine ⟨mono, ?_⟩
      intro p l e R s m args below meth c b S n0 z0 dC dI dA Q X hc hz kr ls H locs cells slots Y
      refine va_zast (D := (dC, dI)) (A := fun q => S ≤ q) (H0 := H) X.1 X.2.1 X.2.2.2.2.2.2.2.2.2.1.1 Y.2.1 (kv_w_D b S dA h) (kv_self Y.2.2.2.1) (a - 1) t' (kv_w_get hg) (kv_T_at ht) (kv_in_of hi) d (fun H1 locs1 hP1 hD1 hS1 => ?_)
      refine kv_size (fun hz1 => ?_)
      exact snd p l e R s m args below meth c b S n0 z0 dC dI dA Q X hc hz kr ls H1 locs1 cells slots (kv_Y_put X.2.2.2.2.2.2.2.2.2.2.1 Y rfl Y.1 (by rw [← kv_w_set _ hg]; exact hP1) hS1 hz1)
    · exact hF.elim
  · exact hF.elim
def o_alen (F : kv_D) : kv_D := fun L st h v h' => match st with
  | .ref a :: r => match kv_g h a with
    | some (.inl q) => q.1 < kv_tl.length ∧ F L (.int (Int32.ofNat q.2.1) :: r) h v h'
    | _ => False
  | _ => False
theorem k_alen (d : decode cc pc = .ok (.arraylength, 1)) (k : kv_S cc nL own Ts ret ini fr lo sc (pc + 1) F) : kv_S cc nL own Ts ret ini fr lo sc pc (o_alen F) := kv_mk (fun L st h v h' hF => by
  unfold o_alen at hF
  split at hF
  · rename_i a r
    split at hF
    · rename_i q hg
      obtain ⟨ht, hF⟩ := hF
      refine ⟨_, F, _, _, k, hF, fun p l e R s m args below meth c b S n0 z0 dC dI dA Q X ls H locs cells slots hc hs Y kk => ?_⟩
      exact va_alen (D := (dC, dI)) X.1 X.2.1 X.2.2.2.2.2.2.2.2.2.1.1 Y.2.1 (a - 1) q.1 (kv_w_get hg) (kv_T_at (List.getElem?_eq_getElem ht)) rfl d (kk ls Y.1)
    · exact hF.elim
  · exact hF.elim)
def o_aald (t : Nat) (F : kv_D) : kv_D := fun L st h v h' => match st with
  | .int i :: .ref a :: r => match kv_g h a with
    | some (.inl (t', n, .inr (.inr (.inr (.inr f))))) => (t' = t ∧ 0 ≤ i ∧ i.toNatClampNeg < n) ∧ F L (va_rf (f i.toNatClampNeg) :: r) h v h'
    | _ => False
  | _ => False
theorem k_aald {t : Nat} {C : String} (d : decode cc pc = .ok (.aaload, 1)) (ht : kv_tl[t]? = some (.object C)) (k : kv_S cc nL own Ts ret ini fr lo sc (pc + 1) F) : kv_S cc nL own Ts ret ini fr lo sc pc (o_aald t F) := kv_mk (fun L st h v h' hF => by
  unfold o_aald at hF
  split at hF
  · rename_i i a r
    split at hF
    · rename_i t' n f hg
      obtain ⟨⟨rfl, hi⟩, hF⟩ := hF
      refine ⟨_, F, _, _, k, hF, fun p l e R s m args below meth c b S n0 z0 dC dI dA Q X ls H locs cells slots hc hs Y kk => ?_⟩
      have kk1 := kk ls Y.1
      rw [List.map_cons, kv_rf] at kk1
      exact va_aldq (D := (dC, dI)) (f := fun j => (f j).map (kv_a b S)) X.1 X.2.1 X.2.2.2.2.2.2.2.2.2.1.1 Y.2.1 (a - 1) t' (kv_w_get hg) (kv_T_at ht) (kv_in_of hi) d kk1
    · exact hF.elim
  · exact hF.elim)
def o_aast (t ci : Nat) (F : kv_D) : kv_D := fun L st h v h' => match st with
  | .ref x :: .int i :: .ref a :: r => match kv_g h a with
    | some (.inl (t', n, .inr (.inr (.inr (.inr f))))) => (t' = t ∧ 0 ≤ i ∧ i.toNatClampNeg < n ∧ ∃ fs, kv_g h x = some (.inr (ci, fs))) ∧ F L r (kv_p h a (.inl (t, n, .inr (.inr (.inr (.inr (va_up f i.toNatClampNeg (some x)))))))) v h'
    | _ => False
  | _ => False
theorem k_aast {t ci : Nat} {q : vw_C} (d : decode cc pc = .ok (.aastore, 1)) (ht : kv_tl[t]? = some (.object q.1)) (hcl : vwCl[ci]? = some q) (k : kv_S cc nL own Ts ret ini fr lo sc (pc + 1) F) : kv_S cc nL own Ts ret ini fr lo sc pc (o_aast t ci F) := by
  intro L st h v h' hF
  unfold o_aast at hF
  split at hF
  · rename_i x i a r
    split at hF
    · rename_i t' n f hg
      obtain ⟨⟨rfl, hi0, hi1, fs, hx⟩, hF⟩ := hF
      obtain ⟨mono, snd⟩ := k _ _ _ _ _ hF
      refine ⟨mono, ?_⟩
      intro p l e R s m args below meth c b S n0 z0 dC dI dA Q X hc hz kr ls H locs cells slots Y
      refine va_astq (D := (dC, dI)) (A := fun q => S ≤ q) (H0 := H) (f := fun j => (f j).map (kv_a b S)) X.1 X.2.1 X.2.2.2.2.2.2.2.2.2.1.1 Y.2.1 (kv_w_D b S dA h) (kv_self Y.2.2.2.1) (a - 1) t' (x - 1) ci (kv_w_get hg) (kv_T_at ht) (kv_w_get hx) hcl (kv_in_of ⟨hi0, hi1⟩) d (fun H1 locs1 hP1 hD1 hS1 => ?_)
      refine kv_size (fun hz1 => ?_)
      have e9 : (fun j => (va_up f i.toNatClampNeg (some x) j).map (kv_a b S)) = va_up (fun j => (f j).map (kv_a b S)) i.toNatClampNeg (some (kv_a b S x)) := by
        funext j
        unfold va_up
        split <;> rfl
      refine snd p l e R s m args below meth c b S n0 z0 dC dI dA Q X hc hz kr ls H1 locs1 cells slots (kv_Y_put X.2.2.2.2.2.2.2.2.2.2.1 Y rfl Y.1 (by rw [← kv_w_set _ hg]; show va_P _ _ (List.set _ _ (_, .inl (_, _, .inr (.inr (.inr (.inr (fun j => (va_up f i.toNatClampNeg (some x) j).map (kv_a b S)))))))) _; rw [e9]; exact hP1) hS1 hz1)
    · exact hF.elim
  · exact hF.elim
def o_copy (t : Nat) (ty : FieldType) (F : kv_D) : kv_D := fun L st h v h' => match st with
  | .int n :: .int dp :: .ref a :: .int sp :: .ref a0 :: r => match kv_g h a0, kv_g h a with
    | some (.inl (t0, n0, .inl f)), some (.inl (t1, n1, .inl g)) => ((t0 = t ∧ t1 = t) ∧ 0 ≤ sp ∧ 0 ≤ dp ∧ 0 ≤ n ∧ sp.toNatClampNeg + n.toNatClampNeg ≤ n0 ∧ dp.toNatClampNeg + n.toNatClampNeg ≤ n1 ∧ (∀ i, i < n.toNatClampNeg → fits ty (.int (f (sp.toNatClampNeg + i))) = true) ∧ (r.map fun v => v.category).sum ≤ 8) ∧ F L r (kv_p h a (.inl (t, n1, .inl (va_cpy f g sp.toNatClampNeg dp.toNatClampNeg n.toNatClampNeg)))) v h'
    | _, _ => False
  | _ => False
theorem k_copy {t index : Nat} {ty : FieldType} (d : decode cc pc = .ok (.invokestatic index, 3)) (ht : kv_tl[t]? = some ty) (hp : refKind ty = false) (h1 : Cond.methodLink own index arraycopyName ∈ Ts) (h2 : Cond.native arraycopyName ∈ Ts) (h3 : Cond.static arraycopyName ∈ Ts) (h4 : Cond.initialized "java/lang/System" ∈ Ts) (hfr : 1 ≤ fr) (hlo : 8 + (nativeFrameWords "java/lang/System" "arraycopy" 5 + 11) ≤ lo) (k : kv_S cc nL own Ts ret ini fr lo sc (pc + 3) F) : kv_S cc nL own Ts ret ini fr lo sc pc (o_copy t ty F) := by
  intro L st h v h' hF
  unfold o_copy at hF
  split at hF
  · rename_i n dp a sp a0 r
    split at hF
    · rename_i t0 n0 f t1 n1 g hg0 hg1
      obtain ⟨⟨⟨rfl, rfl⟩, q1, q2, q3, q4, q5, q6, q7⟩, hF⟩ := hF
      obtain ⟨mono, snd⟩ := k _ _ _ _ _ hF
      refine ⟨mono, ?_⟩
      intro p l e R s m args below meth c b S n0 z0 dC dI dA Q X hc hz kr ls H locs cells slots Y
      have hx := X.2.2.2.2.1
      have hlo1 := X.2.2.2.2.2.2.2.2.1
      refine va_copyi (D := (dC, dI)) (A := fun q => S ≤ q) (H0 := H) (ty := ty) X.1 X.2.1 (X.2.2.1.trans Y.1.1.symm) X.2.2.2.1 (hx _ h1) (hx _ h2) (hx _ h3) (hx _ h4) X.2.2.2.2.2.2.2.2.2.1.1 Y.2.1 (kv_w_D b S dA h) (kv_self Y.2.2.2.1) (a0 - 1) (a - 1) t1 t1 (kv_w_get hg0) (kv_w_get hg1) (kv_T_at ht) (kv_T_at ht) hp (Int32.not_lt.mpr q1) (Int32.not_lt.mpr q2) (Int32.not_lt.mpr q3) q4 q5 q6 (Nat.le_trans hfr X.2.2.2.2.2.2.2.1) (by rw [kv_cats]; omega) d (fun H1 locs1 hP1 hD1 hS1 => ?_)
      refine kv_size (fun hz1 => ?_)
      exact snd p l e R s m args below meth c b S n0 z0 dC dI dA Q X hc hz kr ls H1 locs1 cells slots (kv_Y_put X.2.2.2.2.2.2.2.2.2.2.1 Y rfl Y.1 (by rw [← kv_w_set _ hg1]; exact hP1) hS1 hz1)
    · exact hF.elim
  · exact hF.elim
def o_new (ci N : Nat) (fs : List Value) (F : kv_D) : kv_D := fun L st h v h' => F L (.ref (h.2.1 + 1) :: st) (kv_n h (.inr (ci, fs)) N) v h'
theorem k_new {C : String} {T : u_T} {N ci index : Nat} {fs : List Value} (d : decode cc pc = .ok (.new index, 3)) (hcl : vwCl[ci]? = some (C, T, N)) (hin : ∀ w ∈ u_ws C T N, w ∈ Ts) (ty : Nat → FieldType) (hty : ∀ k, k < N → parseFieldDescriptor (T k).2.2.1 = some (ty k)) (h1 : Cond.classLink own index C ∈ Ts) (h2 : Cond.instantiable C N ∈ Ts) (h3 : Cond.initialized C ∈ Ts) (hfs : ∀ j, j < N → defaultValue (ty j) = vp_V fs j) (hm : ∀ b S, fs.map (kv_v b S) = fs) (k : kv_S cc nL own Ts ret ini fr lo sc (pc + 3) F) : kv_S cc nL own Ts ret ini fr lo sc pc (o_new ci N fs F) := by
  intro L st h v h' hF
  obtain ⟨mono, snd⟩ := k _ _ _ _ _ hF
  have mono : h.2.1 + 1 ≤ h'.2.1 ∧ h.2.2 + N ≤ h'.2.2 := mono
  refine ⟨by omega, ?_⟩
  intro p l e R s m args below meth c b S n0 z0 dC dI dA Q X hc hz kr ls H locs cells slots Y
  have hx := X.2.2.2.2.1
  have hsz := X.2.2.2.2.2.2.2.2.2.2.1
  have hc1 := Y.2.2.2.2.1
  have hz1 := Y.2.2.2.2.2
  refine va_new (D := (dC, dI)) (A := fun q => S ≤ q) (H0 := s.heap) (fs := fs) X.1 X.2.1 hx hin ty hty X.2.2.2.1 (hx _ h1) (hx _ h2) (hx _ h3) X.2.2.2.2.2.2.2.2.2.1.1 Y.2.1 (kv_w_D b S dA h) Y.2.2.2.1 (fun q hq => by show S ≤ q; omega) hcl hfs (by omega) (by omega) d (fun q H1 hP1 hD1 hS1 => ?_)
  refine kv_size (fun hz1 => ?_)
  rw [← hm b S] at hP1 hD1
  obtain ⟨rfl, Y1⟩ := kv_Y_new (z := N) (e := .inr (ci, fs)) hsz Y hP1 hD1 hS1 hz1
  exact snd p l e R s m args below meth c b S n0 z0 dC dI dA Q X hc hz kr ls H1 locs (cells + 1) (slots + N) Y1
def o_newa (t : Nat) (ty : FieldType) (F : kv_D) : kv_D := fun L st h v h' => match st with
  | .int n :: r => (0 ≤ n ∧ n.toNatClampNeg * componentBytes ty ≤ 536870912) ∧ F L (.ref (h.2.1 + 1) :: r) (kv_n h (.inl (t, n.toNatClampNeg, .inl (fun _ => 0))) n.toNatClampNeg) v h'
  | _ => False
theorem k_newa {t : Nat} {ty : FieldType} {atype : ArrayType} (d : decode cc pc = .ok (.newarray atype, 2)) (hty : newarray.typeOf atype = ty) (ht : kv_tl[t]? = some ty) (hdv : defaultValue ty = .int 0) (h1 : Cond.arrayClass ty ∈ Ts) (k : kv_S cc nL own Ts ret ini fr lo sc (pc + 2) F) : kv_S cc nL own Ts ret ini fr lo sc pc (o_newa t ty F) := by
  intro L st h v h' hF
  unfold o_newa at hF
  split at hF
  · rename_i n r
    obtain ⟨⟨q1, q2⟩, hF⟩ := hF
    obtain ⟨mono, snd⟩ := k _ _ _ _ _ hF
    have mono : h.2.1 + 1 ≤ h'.2.1 ∧ h.2.2 + n.toNatClampNeg ≤ h'.2.2 := mono
    refine ⟨by omega, ?_⟩
    intro p l e R s m args below meth c b S n0 z0 dC dI dA Q X hc hz kr ls H locs cells slots Y
    have hx := X.2.2.2.2.1
    have hsz := X.2.2.2.2.2.2.2.2.2.2.1
    have hc1 := Y.2.2.2.2.1
    have hz1 := Y.2.2.2.2.2
    refine va_newa (D := (dC, dI)) (A := fun q => S ≤ q) (H0 := s.heap) (a0 := (n.toNatClampNeg, .inl (fun _ => 0))) X.1 X.2.1 (by rw [hty]; exact hx _ h1) hty X.2.2.2.2.2.2.2.2.2.1.1 Y.2.1 (kv_w_D b S dA h) Y.2.2.2.1 (fun q hq => by show S ≤ q; omega) (fun cA => by rw [hdv]; rfl) (Int32.not_lt.mpr q1) rfl q2 (by omega) (by omega) d (fun q cA H1 hK1 hP1 hD1 hS1 => ?_)
    refine kv_size (fun hz1 => ?_)
    have hl : (kv_T dA ++ [(cA, ty)])[kv_tl.length]? = some (cA, ty) := by
      rw [List.getElem?_append_right (by simp [kv_T])]
      simp [kv_T]
    have hcA : cA = dA t := kv_RA_inj (hK1.2 _ _ hl).2 (X.2.2.2.2.2.2.2.2.2.1.1.2 t _ (kv_T_at ht)).2
    subst hcA
    obtain ⟨rfl, Y1⟩ := kv_Y_new (z := n.toNatClampNeg) (e := .inl (t, n.toNatClampNeg, .inl (fun _ => 0))) hsz Y hP1 hD1 hS1 hz1
    exact snd p l e R s m args below meth c b S n0 z0 dC dI dA Q X hc hz kr ls H1 locs (cells + 1) (slots + n.toNatClampNeg) Y1
  · exact hF.elim
def o_newq (t : Nat) (F : kv_D) : kv_D := fun L st h v h' => match st with
  | .int n :: r => (0 ≤ n ∧ n.toNatClampNeg * 4 ≤ 536870912) ∧ F L (.ref (h.2.1 + 1) :: r) (kv_n h (.inl (t, n.toNatClampNeg, .inr (.inr (.inr (.inr (fun _ => none)))))) n.toNatClampNeg) v h'
  | _ => False
theorem k_newq {t index : Nat} {C : String} (d : decode cc pc = .ok (.anewarray index, 3)) (ht : kv_tl[t]? = some (.object C)) (h1 : Cond.classLink own index C ∈ Ts) (h2 : Cond.arrayOver (.object C) ∈ kv_nl) (k : kv_S cc nL own Ts ret ini fr lo sc (pc + 3) F) : kv_S cc nL own Ts ret ini fr lo sc pc (o_newq t F) := by
  intro L st h v h' hF
  unfold o_newq at hF
  split at hF
  · rename_i n r
    obtain ⟨⟨q1, q2⟩, hF⟩ := hF
    obtain ⟨mono, snd⟩ := k _ _ _ _ _ hF
    have mono : h.2.1 + 1 ≤ h'.2.1 ∧ h.2.2 + n.toNatClampNeg ≤ h'.2.2 := mono
    refine ⟨by omega, ?_⟩
    intro p l e R s m args below meth c b S n0 z0 dC dI dA Q X hc hz kr ls H locs cells slots Y
    have hx := X.2.2.2.2.1
    have hsz := X.2.2.2.2.2.2.2.2.2.2.1
    have hc1 := Y.2.2.2.2.1
    have hz1 := Y.2.2.2.2.2
    refine va_newq (D := (dC, dI)) (A := fun q => S ≤ q) (H0 := s.heap) X.1 X.2.1 X.2.2.2.1 (hx _ h1) (X.2.2.2.2.2.2.2.2.2.1.2 _ h2) X.2.2.2.2.2.2.2.2.2.1.1 Y.2.1 (kv_w_D b S dA h) Y.2.2.2.1 (fun q hq => by show S ≤ q; omega) (Int32.not_lt.mpr q1) rfl q2 (by omega) (by omega) d (fun q cA H1 hK1 hP1 hD1 hS1 => ?_)
    refine kv_size (fun hz1 => ?_)
    have hl : (kv_T dA ++ [(cA, FieldType.object C)])[kv_tl.length]? = some (cA, .object C) := by
      rw [List.getElem?_append_right (by simp [kv_T])]
      simp [kv_T]
    have hcA : cA = dA t := kv_RA_inj (hK1.2 _ _ hl).2 (X.2.2.2.2.2.2.2.2.2.1.1.2 t _ (kv_T_at ht)).2
    subst hcA
    obtain ⟨rfl, Y1⟩ := kv_Y_new (z := n.toNatClampNeg) (e := .inl (t, n.toNatClampNeg, .inr (.inr (.inr (.inr (fun _ => none)))))) hsz Y hP1 hD1 hS1 hz1
    exact snd p l e R s m args below meth c b S n0 z0 dC dI dA Q X hc hz kr ls H1 locs (cells + 1) (slots + n.toNatClampNeg) Y1
  · exact hF.elim
def o_obj (F : kv_D) : kv_D := fun L st h v h' => match st with
  | .ref a :: r => (r.map fun v => v.category).sum ≤ 8 ∧ F L r h v h'
  | _ => False
theorem k_obj {index : Nat} (d : decode cc pc = .ok (.invokespecial index, 3)) (h1 : Cond.methodLink own index Lib.objectInit ∈ Ts) (h2 : Cond.instanceMethod Lib.objectInit ∈ Ts) (h3 : Cond.code Lib.objectInit ⟨#[0xb1]⟩ 1 none ∈ Ts) (hfr : 1 ≤ fr) (hlo : 20 ≤ lo) (k : kv_S cc nL own Ts ret ini fr lo sc (pc + 3) F) : kv_S cc nL own Ts ret ini fr lo sc pc (o_obj F) := kv_mk (fun L st h v h' hF => by
  unfold o_obj at hF
  split at hF
  · refine ⟨_, F, _, _, k, hF.2, fun p l e R s m args below meth c b S n0 z0 dC dI dA Q X ls H locs cells slots hc hs Y kk => ?_⟩
    have hx := X.2.2.2.2.1
    have hlo1 := X.2.2.2.2.2.2.2.2.1
    have hr := hF.1
    exact W.objInit X.1 X.2.1 X.2.2.2.1 (hx _ h1) (hx _ h2) (hx _ h3) rfl (X.2.2.1.trans Y.1.1.symm).symm rfl d (Nat.le_trans hfr X.2.2.2.2.2.2.2.1) (by show 2 * 0 + _ + 12 ≤ _; rw [kv_cats]; omega) (kk ls Y.1)
  · exact hF.elim)
def o_tsw (a : Int) (Fs : List kv_D) (D : kv_D) : kv_D := fun L st h v h' => match st with
  | .int x :: r => if x.toInt < a ∨ a + Fs.length ≤ x.toInt then D L r h v h' else ∃ F, Fs[(x.toInt - a).toNat]? = some F ∧ F L r h v h'
  | _ => False
theorem k_tsw {a z dflt : Int} {offs : Array Int} {len td : Nat} {Fs : List kv_D} {D : kv_D} (d : decode cc pc = .ok (.tableswitch dflt a z offs, len)) (hz : z + 1 = a + Fs.length) (hd : (pc : Int) + dflt = (td : Int)) (kd : kv_S cc nL own Ts ret ini fr lo sc td D) (ks : ∀ (i : Nat) (F : kv_D), Fs[i]? = some F → ∃ (off : Int) (t : Nat), offs[i]? = some off ∧ (pc : Int) + off = (t : Int) ∧ kv_S cc nL own Ts ret ini fr lo sc t F) : kv_S cc nL own Ts ret ini fr lo sc pc (o_tsw a Fs D) := kv_mk (fun L st h v h' hF => by
  unfold o_tsw at hF
  split at hF
  · split at hF
    · rename_i hx
      exact ⟨_, D, _, _, kd, hF, fun p l e R s m args below meth c b S n0 z0 dC dI dA Q X ls H locs cells slots hc hs Y kk => lv_tableOut X.1 X.2.1 d (by omega) hd (kk ls Y.1)⟩
    · rename_i hx
      obtain ⟨F, hF1, hF⟩ := hF
      obtain ⟨off, t, g1, g2, g3⟩ := ks _ F hF1
      exact ⟨_, F, _, _, g3, hF, fun p l e R s m args below meth c b S n0 z0 dC dI dA Q X ls H locs cells slots hc hs Y kk => lv_tableIn X.1 X.2.1 d (by omega) (by omega) g1 g2 (kk ls Y.1)⟩
  · exact hF.elim)
end KVD
end
section
section KVE
variable {b S : Nat} {dC : Nat → ClassId} {dI : Nat → Nat → Nat} {dA : Nat → ClassId}
def kv_Q (b S : Nat) (dC : Nat → ClassId) (dI : Nat → Nat → Nat) (dA : Nat → ClassId) (v1 : Option Value) (h1 : kv_H) : Array Value → State → Outcome → State → Prop := fun _ st oc t => oc = .returned (v1.map (kv_v b S)) ∧ va_P (dC, dI) vwCl (kv_w b S dA h1) t.heap ∧ t.heap.size = S + h1.2.1 ∧ va_F (fun q => S ≤ q) st t
def kv_Pc (b S : Nat) (dC : Nat → ClassId) (dI : Nat → Nat → Nat) (dA : Nat → ClassId) (as : List Value) (h : kv_H) : Array Value → State → Prop := va_Pc (as.map (kv_v b S)) (fun U => va_P (dC, dI) vwCl (kv_w b S dA h) U.heap ∧ U.heap.size = S + h.2.1 ∧ va_K (dC, dI) vwCl (kv_T dA) U ∧ kv_nw U)
/-- a method's contract: what it relates, it does -/
def kv_CT (y : MethodName) (ws : List Cond) (fr lo : Nat) (M : kv_M) : Prop := ∀ (as : List Value) (h : kv_H) (v : Option Value) (h' : kv_H), M as h v h' → (h.2.1 ≤ h'.2.1 ∧ h.2.2 ≤ h'.2.2) ∧ ∀ (l : Launch) (b S : Nat) (dC : Nat → ClassId) (dI : Nat → Nat → Nat) (dA : Nat → ClassId) (mc ms : Nat), h.2.1 + mc = h'.2.1 → h.2.2 + ms = h'.2.2 → Met l y ws { frames := fr, cells := mc, slots := ms, locals := lo } (kv_Pc b S dC dI dA as h) (kv_Q b S dC dI dA v h') mc ms (fun q => S ≤ q)
theorem kv_blind {as : List Value} {h : kv_H} : FrameBlind (kv_Pc b S dC dI dA as h) := fun a U g mk q => by
  obtain ⟨q0, q1, q2, q3⟩ := q
  exact ⟨q0, q1, q2, va_K.moved (u := U) (U := U.calling g mk a) (Vm.Alike.refl U.vm) q3.1, kv_nw_vm (u := U) (U := U.calling g mk a) rfl q3.2⟩
theorem kv_sl {vs : List Value} (hc : ∀ x ∈ vs, x.category = 1) : lg_sl vs = vs.map Slot.val := by
  induction vs with
  | nil => rfl
  | cons x t ih =>
    have h1 := hc x List.mem_cons_self
    have h2 := ih (fun y hy => hc y (List.mem_cons_of_mem _ hy))
    unfold lg_sl at h2 ⊢
    rw [List.flatMap_cons, h2]
    simp [h1]
theorem kv_entry {nL : Nat} {as : List Value} (hc : ∀ x ∈ as, x.category = 1) (hk : as.length ≤ nL) : kv_L b S ((lg_sl (as.map (kv_v b S)) ++ List.replicate (nL - (lg_sl (as.map (kv_v b S))).length) Slot.unset).toArray) nL (as.map some ++ List.replicate (nL - as.length) none) := by
  have hc2 : ∀ x ∈ as.map (kv_v b S), x.category = 1 := fun x hx => by
    obtain ⟨y, hy, rfl⟩ := List.mem_map.mp hx
    rw [kv_cat]
    exact hc y hy
  have hsl := kv_sl hc2
  have hlen : (lg_sl (as.map (kv_v b S))).length = as.length := by rw [hsl]; simp
  obtain ⟨g1, g2, -⟩ := lv_entry (as.map (kv_v b S)) (n := nL) (by omega)
  refine ⟨g1, g2, by simp; omega, fun i v hi hv => ?_⟩
  by_cases hlt : i < as.length
  · rw [List.getElem?_append_left (by simpa using hlt), List.getElem?_map, List.getElem?_eq_getElem hlt] at hi
    simp only [Option.map_some, Option.some.injEq] at hi
    subst hi
    rw [hsl]
    simp only [List.map_map, List.getElem?_toArray]
    rw [List.getElem?_append_left (by simpa using hlt), List.getElem?_map, List.getElem?_eq_getElem hlt]
    rfl
  · rw [List.getElem?_append_right (by simpa using hlt), List.getElem?_replicate] at hi
    split at hi <;> cases hi
def kv_in (k nL : Nat) (F : kv_D) : kv_M := fun as h v h' => as.length = k ∧ (∀ x ∈ as, x.category = 1) ∧ F (as.map some ++ List.replicate (nL - k) none) [] h v h'
theorem kv_met {y : MethodName} {cc : ByteArray} {nL k fr lo : Nat} {own : String} {Ts Ts' : List Cond} {ret : Option FieldType} {ini : Bool} {F : kv_D} (hy : plainName y.cls = true) (hcls : y.cls = own) (hw : Ts = Cond.code y cc nL ret :: Ts') (hk : k ≤ nL) (hini : ini = true → y.name = "<init>") (sd : kv_S cc nL own Ts ret ini fr lo none 0 F) : kv_CT y Ts fr lo (kv_in k nL F) := by
  intro as h v h' hM
  obtain ⟨hlen, hcat, hF⟩ := hM
  obtain ⟨mono, snd⟩ := sd _ _ _ _ _ hF
  refine ⟨mono, ?_⟩
  intro l b S dC dI dA mc ms hmc hms
  refine Met.ofW (cc := cc) (maxL := nL) (ret := ret) hy hw ?_
  intro p e s m args below meth c s₁ B hml hv
  obtain ⟨rfl, hP, hz, hK⟩ := hv
  have hx := B.exec
  have hb := B.bytes
  have hr := B.returns
  have hts := atoms_spec (ws := Ts) B.pre
  have hown : s.vm.findClass own = some m.cls := by rw [← hcls]; exact findClass_of_methodNamed B.named
  have hlocks := B.notSynchronized
  have hin : meth.name = y.name := (name_of_methodNamed B.named B.method).1
  subst hlen
  rw [lg_entry_eq]
  refine snd p l e _ s m _ below meth c b S h.2.1 h.2.2 dC dI dA _ ⟨hx, hb, hml, hown, hts, hr, fun q => by rw [hin]; exact hini q, Nat.le_refl _, Nat.le_refl _, hK, hz, fun N xs q => by cases q⟩ (by show h'.2.1 ≤ mc + h.2.1; omega) (by show h'.2.2 ≤ ms + h.2.2; omega) ?_ _ s.heap [] 0 0 ⟨kv_entry hcat hk, hP, hz, va_S.rf, by omega, by omega⟩
  intro pc' ls' L' H' locs' cells' slots' hret Y'
  obtain ⟨y1, y2, y3, y4, y5, y6⟩ := Y'
  have e1 : cells' = mc := by omega
  have e2 : slots' = ms := by omega
  subst e1
  subst e2
  rcases hret with ⟨rfl, rr, d⟩ | ⟨x, ty, rfl, rr, hn, d⟩ | ⟨a, ty, rfl, rr, ho, d⟩
  · exact W.vret hx hb (hr.trans rr) (fun t ht hW => ⟨rfl, by rw [ht]; exact y2, by rw [ht]; exact y3, y4.F ht⟩) y4.2.2 d
  · exact W.zret hx hb (hr.trans rr) hn (fun t ht hW => ⟨rfl, by rw [ht]; exact y2, by rw [ht]; exact y3, y4.F ht⟩) y4.2.2 d
  · exact W.aret hx hb (hr.trans rr) ho (Or.inr ⟨_, rfl⟩) (fun t ht hW => ⟨rfl, by rw [ht]; exact y2, by rw [ht]; exact y3, y4.F ht⟩) y4.2.2 d
theorem kv_run {p : Program} {l : Launch} {e : Env} {R : Room} {s : State} {m : MethodId} {args : Array Value} {below : List Frame} {meth : Method} {c : Code} {H : Heap} {locs : List Loc} {cells slots mc ms pc : Nat} {Q : State → Prop} {ls : Array Slot} {st0 rest : List Value} {v1 : Option Value} {h1 : kv_H} {aa : Array Value} (hr : va_Run p l e R s m args below meth c H locs cells slots mc ms (F0 m pc ls st0) rest (kv_Q b S dC dI dA v1 h1 aa) (fun q => S ≤ q)) (hS : va_S (fun q => S ≤ q) s.heap H locs)
    (kk : ∀ (H1 : Heap) (locs1 : List Loc), va_P (dC, dI) vwCl (kv_w b S dA h1) H1 → H1.size = S + h1.2.1 → va_S (fun q => S ≤ q) s.heap H1 locs1 → W p l e R s m args below meth c H1 locs1 (cells + mc) (slots + ms) Q (F0 m (pc + 3) ls ((v1.map (kv_v b S)).toList ++ rest))) : W p l e R s m args below meth c H locs cells slots Q (F0 m pc ls st0) := by
  intro T hT X
  obtain ⟨v, st₀, t, T', L, h0, X', hL, e1, e2, ⟨hv, hp, hz, hF⟩, st⟩ := hr T hT X
  have hv2 : v = v1.map (kv_v b S) := by injection hv
  subst hv2
  rw [va_F, h0] at hF
  obtain ⟨t2, a1, b1⟩ := kk T'.heap (locs ++ L) (by rw [e1]; exact hp) (by rw [e1]; exact hz)
    ⟨Nat.le_trans hS.1 (by rw [e1]; exact hF.1), fun q q1 q2 => by rw [e1, hF.2 q (Nat.lt_of_lt_of_le q1 hS.1) q2]; exact hS.2.1 q q1 q2, fun q hq => by
      rcases List.mem_append.mp hq with h | h
      · exact hS.2.2 q h
      · exact hL q h⟩ T' rfl X'
  exact ⟨t2, st t2 a1, b1⟩
end KVE
section KVF
variable {cc : ByteArray} {nL : Nat} {own : String} {Ts : List Cond} {ret : Option FieldType} {ini : Bool} {fr lo : Nat} {sc : Option (Nat × (Nat → Int32))} {pc : Nat} {F G : kv_D}
def o_callV (ci k : Nat) (M : kv_M) (F : kv_D) : kv_D := fun L st h v h' => ∃ (As : List Value) (a : Nat) (r : List Value) (fs : List Value) (v1 : Option Value) (h1 : kv_H), st = As.reverse ++ .ref a :: r ∧ As.length = k ∧ (r.map fun v => v.category).sum ≤ 8 ∧ kv_g h a = some (.inr (ci, fs)) ∧ M (.ref a :: As) h v1 h1 ∧ F L (v1.toList ++ r) h1 v h'
def o_callI (k : Nat) (M : kv_M) (F : kv_D) : kv_D := fun L st h v h' => ∃ (As : List Value) (a : Nat) (r : List Value) (v1 : Option Value) (h1 : kv_H), st = As.reverse ++ .ref a :: r ∧ As.length = k ∧ (r.map fun v => v.category).sum ≤ 8 ∧ M (.ref a :: As) h v1 h1 ∧ F L (v1.toList ++ r) h1 v h'
def o_callS (k : Nat) (M : kv_M) (F : kv_D) : kv_D := fun L st h v h' => ∃ (As : List Value) (r : List Value) (v1 : Option Value) (h1 : kv_H), st = As.reverse ++ r ∧ As.length = k ∧ (r.map fun v => v.category).sum ≤ 8 ∧ M As h v1 h1 ∧ F L (v1.toList ++ r) h1 v h' 
theorem k_callV {y : MethodName} {ws ws' : List Cond} {bytes : ByteArray} {maxL fr2 lo2 kn index : Nat} {rt : Option FieldType} {M : kv_M} {ci : Nat} {q : vw_C} (d : decode cc pc = .ok (.invokevirtual index, 3)) (Ct : kv_CT y ws fr2 lo2 M) (hw : ws = Cond.code y bytes maxL rt :: ws') (hG : GoodIn Ts (wsV own index q.1 y ws)) (hd : y.cls = q.1 ∧ y.cls ≠ "java/lang/invoke/MethodHandle" ∧ y.cls ≠ "java/lang/invoke/VarHandle" ∧ (parseMethodDescriptor y.desc).map (fun d => d.parameters.length) = some kn) (hcl : vwCl[ci]? = some q) (hfr : fr2 + 1 ≤ fr) (hlo : 8 + (maxL + 11) + lo2 ≤ lo) (k : kv_S cc nL own Ts ret ini fr lo sc (pc + 3) F) : kv_S cc nL own Ts ret ini fr lo sc pc (o_callV ci kn M F) := by
  intro L st h v h' hF
  obtain ⟨As, a, r, fs, v1, h1, rfl, hn, hr, hg, hM, hF⟩ := hF
  obtain ⟨m1, met⟩ := Ct _ _ _ _ hM
  obtain ⟨mono, snd⟩ := k _ _ _ _ _ hF
  refine ⟨⟨by omega, by omega⟩, ?_⟩
  intro p l e R s m args below meth c b S n0 z0 dC dI dA Q X hc hz kr ls H locs cells slots Y
  have hx := X.2.2.2.2.1
  have hcc := Y.2.2.2.2.1
  have hzz := Y.2.2.2.2.2
  have hMet := met l b S dC dI dA (h1.2.1 - h.2.1) (h1.2.2 - h.2.2) (by omega) (by omega)
  refine kv_run (rest := r.map (kv_v b S)) (va_runV (b := kv_a b S a) (As := As.map (kv_v b S)) (rest := r.map (kv_v b S)) ⟨X.1, X.2.1, X.2.2.1, X.2.2.2.1, hx⟩ hMet (cwV kn hx hG hw rfl rfl hd ⟨by have := X.2.2.2.2.2.2.2.1; show fr2 + 1 ≤ _; omega, by have := X.2.2.2.2.2.2.2.2.1; show 8 + (maxL + 11) + lo2 ≤ _; omega⟩) ⟨kv_blind, va_recv X.2.2.2.2.2.2.2.2.2.1.1 Y.2.1 hcl (kv_w_get hg), fun U hU hW => ⟨rfl, by rw [hU]; exact Y.2.1, by rw [hU]; exact Y.2.2.1, va_K.moved hW.alike X.2.2.2.2.2.2.2.2.2.1.1, kv_nw_warm hW X.2.2.2.2.2.2.2.2.2.1.2⟩⟩ rfl (by rw [List.length_map]; exact hn) Y.1.1 (by simp [kv_v]) (lv_room (by rw [kv_cats]; exact hr)) d ⟨by omega, by omega⟩) (Y.2.2.2.1) (fun H1 locs1 g1 g2 g3 => ?_)
  have e9 : (v1.map (kv_v b S)).toList ++ r.map (kv_v b S) = (v1.toList ++ r).map (kv_v b S) := by cases v1 <;> rfl
  rw [e9]
  exact snd p l e R s m args below meth c b S n0 z0 dC dI dA Q X hc hz kr ls H1 locs1 _ _ ⟨Y.1, g1, g2, g3, by omega, by omega⟩
theorem k_callVN {y : MethodName} {ws ws' : List Cond} {bytes : ByteArray} {maxL fr2 lo2 kn index : Nat} {rt : Option FieldType} {M : kv_M} {ci : Nat} {q : vw_C} {host : String} (d : decode cc pc = .ok (.invokevirtual index, 3)) (Ct : kv_CT y ws fr2 lo2 M) (hw : ws = Cond.code y bytes maxL rt :: ws') (hG : GoodIn Ts ws) (hl : Cond.methodLinkNest own index y host ∈ kv_nl) (hini : Cond.initialized y.cls ∈ Ts) (him : Cond.instanceMethod y ∈ Ts) (hsel : Cond.selects q.1 y y ∈ Ts) (hd : y.cls ≠ "java/lang/invoke/MethodHandle" ∧ y.cls ≠ "java/lang/invoke/VarHandle" ∧ (parseMethodDescriptor y.desc).map (fun d => d.parameters.length) = some kn) (hcl : vwCl[ci]? = some q) (hfr : fr2 + 1 ≤ fr) (hlo : 8 + (maxL + 11) + lo2 ≤ lo) (k : kv_S cc nL own Ts ret ini fr lo sc (pc + 3) F) : kv_S cc nL own Ts ret ini fr lo sc pc (o_callV ci kn M F) := by
  intro L st h v h' hF
  obtain ⟨As, a, r, fs, v1, h1, rfl, hn, hr, hg, hM, hF⟩ := hF
  obtain ⟨m1, met⟩ := Ct _ _ _ _ hM
  obtain ⟨mono, snd⟩ := k _ _ _ _ _ hF
  refine ⟨⟨by omega, by omega⟩, ?_⟩
  intro p l e R s m args below meth c b S n0 z0 dC dI dA Q X hc hz kr ls H locs cells slots Y
  have hx := X.2.2.2.2.1
  have hcc := Y.2.2.2.2.1
  have hzz := Y.2.2.2.2.2
  have hMet := met l b S dC dI dA (h1.2.1 - h.2.1) (h1.2.2 - h.2.2) (by omega) (by omega)
  refine kv_run (rest := r.map (kv_v b S)) (va_runVN (b := kv_a b S a) (As := As.map (kv_v b S)) (rest := r.map (kv_v b S)) ⟨X.1, X.2.1, X.2.2.1, X.2.2.2.1, hx⟩ hMet ⟨va_cnB kn hx hG hw rfl rfl (X.2.2.2.2.2.2.2.2.2.1.2 _ hl) (hx _ hini) hd ⟨by have := X.2.2.2.2.2.2.2.1; show fr2 + 1 ≤ _; omega, by have := X.2.2.2.2.2.2.2.2.1; show 8 + (maxL + 11) + lo2 ≤ _; omega⟩, hx _ him, hx _ hsel⟩ ⟨kv_blind, va_recv X.2.2.2.2.2.2.2.2.2.1.1 Y.2.1 hcl (kv_w_get hg), fun U hU hW => ⟨rfl, by rw [hU]; exact Y.2.1, by rw [hU]; exact Y.2.2.1, va_K.moved hW.alike X.2.2.2.2.2.2.2.2.2.1.1, kv_nw_warm hW X.2.2.2.2.2.2.2.2.2.1.2⟩⟩ rfl (by rw [List.length_map]; exact hn) Y.1.1 (by simp [kv_v]) (lv_room (by rw [kv_cats]; exact hr)) d ⟨by omega, by omega⟩) (Y.2.2.2.1) (fun H1 locs1 g1 g2 g3 => ?_)
  have e9 : (v1.map (kv_v b S)).toList ++ r.map (kv_v b S) = (v1.toList ++ r).map (kv_v b S) := by cases v1 <;> rfl
  rw [e9]
  exact snd p l e R s m args below meth c b S n0 z0 dC dI dA Q X hc hz kr ls H1 locs1 _ _ ⟨Y.1, g1, g2, g3, by omega, by omega⟩
theorem k_callS {y : MethodName} {ws ws' : List Cond} {bytes : ByteArray} {maxL fr2 lo2 kn index : Nat} {rt : Option FieldType} {M : kv_M} (d : decode cc pc = .ok (.invokestatic index, 3)) (Ct : kv_CT y ws fr2 lo2 M) (hw : ws = Cond.code y bytes maxL rt :: ws') (hG : GoodIn Ts (wsS own index y ws)) (hd : y.cls = own ∧ y.cls ≠ "java/lang/invoke/MethodHandle" ∧ y.cls ≠ "java/lang/invoke/VarHandle" ∧ (parseMethodDescriptor y.desc).map (fun d => d.parameters.length) = some kn) (hfr : fr2 + 1 ≤ fr) (hlo : 8 + (maxL + 11) + lo2 ≤ lo) (k : kv_S cc nL own Ts ret ini fr lo sc (pc + 3) F) : kv_S cc nL own Ts ret ini fr lo sc pc (o_callS kn M F) := by
  intro L st h v h' hF
  obtain ⟨As, r, v1, h1, rfl, hn, hr, hM, hF⟩ := hF
  obtain ⟨m1, met⟩ := Ct _ _ _ _ hM
  obtain ⟨mono, snd⟩ := k _ _ _ _ _ hF
  refine ⟨⟨by omega, by omega⟩, ?_⟩
  intro p l e R s m args below meth c b S n0 z0 dC dI dA Q X hc hz kr ls H locs cells slots Y
  have hx := X.2.2.2.2.1
  have hcc := Y.2.2.2.2.1
  have hzz := Y.2.2.2.2.2
  have hMet := met l b S dC dI dA (h1.2.1 - h.2.1) (h1.2.2 - h.2.2) (by omega) (by omega)
  refine kv_run (rest := r.map (kv_v b S)) (va_runS (As := As.map (kv_v b S)) (rest := r.map (kv_v b S)) ⟨X.1, X.2.1, X.2.2.1, X.2.2.2.1, hx⟩ hMet (cwS kn hx hG hw rfl rfl hd ⟨by have := X.2.2.2.2.2.2.2.1; show fr2 + 1 ≤ _; omega, by have := X.2.2.2.2.2.2.2.2.1; show 8 + (maxL + 11) + lo2 ≤ _; omega⟩) ⟨kv_blind, fun U hU hW => ⟨rfl, by rw [hU]; exact Y.2.1, by rw [hU]; exact Y.2.2.1, va_K.moved hW.alike X.2.2.2.2.2.2.2.2.2.1.1, kv_nw_warm hW X.2.2.2.2.2.2.2.2.2.1.2⟩⟩ rfl (by rw [List.length_map]; exact hn) Y.1.1 (by simp [kv_v]) (lv_room (by rw [kv_cats]; exact hr)) d ⟨by omega, by omega⟩) (Y.2.2.2.1) (fun H1 locs1 g1 g2 g3 => ?_)
  have e9 : (v1.map (kv_v b S)).toList ++ r.map (kv_v b S) = (v1.toList ++ r).map (kv_v b S) := by cases v1 <;> rfl
  rw [e9]
  exact snd p l e R s m args below meth c b S n0 z0 dC dI dA Q X hc hz kr ls H1 locs1 _ _ ⟨Y.1, g1, g2, g3, by omega, by omega⟩
theorem k_callSN {y : MethodName} {ws ws' : List Cond} {bytes : ByteArray} {maxL fr2 lo2 kn index : Nat} {rt : Option FieldType} {M : kv_M} {host : String} (d : decode cc pc = .ok (.invokestatic index, 3)) (Ct : kv_CT y ws fr2 lo2 M) (hw : ws = Cond.code y bytes maxL rt :: ws') (hG : GoodIn Ts ws) (hl : Cond.methodLinkNest own index y host ∈ kv_nl) (hini : Cond.initialized y.cls ∈ Ts) (hst : Cond.static y ∈ Ts) (hd : y.cls ≠ "java/lang/invoke/MethodHandle" ∧ y.cls ≠ "java/lang/invoke/VarHandle" ∧ (parseMethodDescriptor y.desc).map (fun d => d.parameters.length) = some kn) (hfr : fr2 + 1 ≤ fr) (hlo : 8 + (maxL + 11) + lo2 ≤ lo) (k : kv_S cc nL own Ts ret ini fr lo sc (pc + 3) F) : kv_S cc nL own Ts ret ini fr lo sc pc (o_callS kn M F) := by
  intro L st h v h' hF
  obtain ⟨As, r, v1, h1, rfl, hn, hr, hM, hF⟩ := hF
  obtain ⟨m1, met⟩ := Ct _ _ _ _ hM
  obtain ⟨mono, snd⟩ := k _ _ _ _ _ hF
  refine ⟨⟨by omega, by omega⟩, ?_⟩
  intro p l e R s m args below meth c b S n0 z0 dC dI dA Q X hc hz kr ls H locs cells slots Y
  have hx := X.2.2.2.2.1
  have hcc := Y.2.2.2.2.1
  have hzz := Y.2.2.2.2.2
  have hMet := met l b S dC dI dA (h1.2.1 - h.2.1) (h1.2.2 - h.2.2) (by omega) (by omega)
  refine kv_run (rest := r.map (kv_v b S)) (va_runSN (As := As.map (kv_v b S)) (rest := r.map (kv_v b S)) ⟨X.1, X.2.1, X.2.2.1, X.2.2.2.1, hx⟩ hMet ⟨va_cnB kn hx hG hw rfl rfl (X.2.2.2.2.2.2.2.2.2.1.2 _ hl) (hx _ hini) hd ⟨by have := X.2.2.2.2.2.2.2.1; show fr2 + 1 ≤ _; omega, by have := X.2.2.2.2.2.2.2.2.1; show 8 + (maxL + 11) + lo2 ≤ _; omega⟩, hx _ hst, trivial⟩ ⟨kv_blind, fun U hU hW => ⟨rfl, by rw [hU]; exact Y.2.1, by rw [hU]; exact Y.2.2.1, va_K.moved hW.alike X.2.2.2.2.2.2.2.2.2.1.1, kv_nw_warm hW X.2.2.2.2.2.2.2.2.2.1.2⟩⟩ rfl (by rw [List.length_map]; exact hn) Y.1.1 (by simp [kv_v]) (lv_room (by rw [kv_cats]; exact hr)) d ⟨by omega, by omega⟩) (Y.2.2.2.1) (fun H1 locs1 g1 g2 g3 => ?_)
  have e9 : (v1.map (kv_v b S)).toList ++ r.map (kv_v b S) = (v1.toList ++ r).map (kv_v b S) := by cases v1 <;> rfl
  rw [e9]
  exact snd p l e R s m args below meth c b S n0 z0 dC dI dA Q X hc hz kr ls H1 locs1 _ _ ⟨Y.1, g1, g2, g3, by omega, by omega⟩
theorem k_callI {y : MethodName} {ws ws' : List Cond} {bytes : ByteArray} {maxL fr2 lo2 kn index : Nat} {M : kv_M} (d : decode cc pc = .ok (.invokespecial index, 3)) (Ct : kv_CT y ws fr2 lo2 M) (hw : ws = Cond.code y bytes maxL none :: ws') (hG : GoodIn Ts ws) (hl : Cond.methodLink own index y ∈ Ts) (hini : Cond.initialized y.cls ∈ Ts) (him : Cond.instanceMethod y ∈ Ts) (hnm : y.name = "<init>") (hd : y.cls ≠ "java/lang/invoke/MethodHandle" ∧ y.cls ≠ "java/lang/invoke/VarHandle" ∧ (parseMethodDescriptor y.desc).map (fun d => d.parameters.length) = some kn) (hfr : fr2 + 1 ≤ fr) (hlo : 8 + (maxL + 11) + lo2 ≤ lo) (k : kv_S cc nL own Ts ret ini fr lo sc (pc + 3) F) : kv_S cc nL own Ts ret ini fr lo sc pc (o_callI kn M F) := by
  intro L st h v h' hF
  obtain ⟨As, a, r, v1, h1, rfl, hn, hr, hM, hF⟩ := hF
  obtain ⟨m1, met⟩ := Ct _ _ _ _ hM
  obtain ⟨mono, snd⟩ := k _ _ _ _ _ hF
  refine ⟨⟨by omega, by omega⟩, ?_⟩
  intro p l e R s m args below meth c b S n0 z0 dC dI dA Q X hc hz kr ls H locs cells slots Y
  have hx := X.2.2.2.2.1
  have hcc := Y.2.2.2.2.1
  have hzz := Y.2.2.2.2.2
  have hMet := met l b S dC dI dA (h1.2.1 - h.2.1) (h1.2.2 - h.2.2) (by omega) (by omega)
  refine kv_run (rest := r.map (kv_v b S)) (va_runI (b := kv_a b S a) (As := As.map (kv_v b S)) (rest := r.map (kv_v b S)) ⟨X.1, X.2.1, X.2.2.1, X.2.2.2.1, hx⟩ hMet ⟨callB_of kn hx hG hw rfl rfl (hx _ hini) (hx _ hl) hd ⟨by have := X.2.2.2.2.2.2.2.1; show fr2 + 1 ≤ _; omega, by have := X.2.2.2.2.2.2.2.2.1; show 8 + (maxL + 11) + lo2 ≤ _; omega⟩, hnm, hx _ him⟩ ⟨kv_blind, fun U hU hW => ⟨rfl, by rw [hU]; exact Y.2.1, by rw [hU]; exact Y.2.2.1, va_K.moved hW.alike X.2.2.2.2.2.2.2.2.2.1.1, kv_nw_warm hW X.2.2.2.2.2.2.2.2.2.1.2⟩⟩ rfl (by rw [List.length_map]; exact hn) Y.1.1 (by simp [kv_v]) (lv_room (by rw [kv_cats]; exact hr)) d ⟨by omega, by omega⟩) (Y.2.2.2.1) (fun H1 locs1 g1 g2 g3 => ?_)
  have e9 : (v1.map (kv_v b S)).toList ++ r.map (kv_v b S) = (v1.toList ++ r).map (kv_v b S) := by cases v1 <;> rfl
  rw [e9]
  exact snd p l e R s m args below meth c b S n0 z0 dC dI dA Q X hc hz kr ls H1 locs1 _ _ ⟨Y.1, g1, g2, g3, by omega, by omega⟩
theorem k_callIN {y : MethodName} {ws ws' : List Cond} {bytes : ByteArray} {maxL fr2 lo2 kn index : Nat} {M : kv_M} {host : String} (d : decode cc pc = .ok (.invokespecial index, 3)) (Ct : kv_CT y ws fr2 lo2 M) (hw : ws = Cond.code y bytes maxL none :: ws') (hG : GoodIn Ts ws) (hl : Cond.methodLinkNest own index y host ∈ kv_nl) (hini : Cond.initialized y.cls ∈ Ts) (him : Cond.instanceMethod y ∈ Ts) (hnm : y.name = "<init>") (hd : y.cls ≠ "java/lang/invoke/MethodHandle" ∧ y.cls ≠ "java/lang/invoke/VarHandle" ∧ (parseMethodDescriptor y.desc).map (fun d => d.parameters.length) = some kn) (hfr : fr2 + 1 ≤ fr) (hlo : 8 + (maxL + 11) + lo2 ≤ lo) (k : kv_S cc nL own Ts ret ini fr lo sc (pc + 3) F) : kv_S cc nL own Ts ret ini fr lo sc pc (o_callI kn M F) := by
  intro L st h v h' hF
  obtain ⟨As, a, r, v1, h1, rfl, hn, hr, hM, hF⟩ := hF
  obtain ⟨m1, met⟩ := Ct _ _ _ _ hM
  obtain ⟨mono, snd⟩ := k _ _ _ _ _ hF
  refine ⟨⟨by omega, by omega⟩, ?_⟩
  intro p l e R s m args below meth c b S n0 z0 dC dI dA Q X hc hz kr ls H locs cells slots Y
  have hx := X.2.2.2.2.1
  have hcc := Y.2.2.2.2.1
  have hzz := Y.2.2.2.2.2
  have hMet := met l b S dC dI dA (h1.2.1 - h.2.1) (h1.2.2 - h.2.2) (by omega) (by omega)
  refine kv_run (rest := r.map (kv_v b S)) (va_runIN (b := kv_a b S a) (As := As.map (kv_v b S)) (rest := r.map (kv_v b S)) ⟨X.1, X.2.1, X.2.2.1, X.2.2.2.1, hx⟩ hMet ⟨va_cnB kn hx hG hw rfl rfl (X.2.2.2.2.2.2.2.2.2.1.2 _ hl) (hx _ hini) hd ⟨by have := X.2.2.2.2.2.2.2.1; show fr2 + 1 ≤ _; omega, by have := X.2.2.2.2.2.2.2.2.1; show 8 + (maxL + 11) + lo2 ≤ _; omega⟩, hnm, hx _ him⟩ ⟨kv_blind, fun U hU hW => ⟨rfl, by rw [hU]; exact Y.2.1, by rw [hU]; exact Y.2.2.1, va_K.moved hW.alike X.2.2.2.2.2.2.2.2.2.1.1, kv_nw_warm hW X.2.2.2.2.2.2.2.2.2.1.2⟩⟩ rfl (by rw [List.length_map]; exact hn) Y.1.1 (by simp [kv_v]) (lv_room (by rw [kv_cats]; exact hr)) d ⟨by omega, by omega⟩) (Y.2.2.2.1) (fun H1 locs1 g1 g2 g3 => ?_)
  have e9 : (v1.map (kv_v b S)).toList ++ r.map (kv_v b S) = (v1.toList ++ r).map (kv_v b S) := by cases v1 <;> rfl
  rw [e9]
  exact snd p l e R s m args below meth c b S n0 z0 dC dI dA Q X hc hz kr ls H1 locs1 _ _ ⟨Y.1, g1, g2, g3, by omega, by omega⟩
def kv_fix (B : (Nat → kv_D) → Nat → kv_D) : Nat → Nat → kv_D
  | 0 => fun _ _ _ _ _ _ => False
  | n + 1 => B (kv_fix B n)
def kv_lim (B : (Nat → kv_D) → Nat → kv_D) : Nat → kv_D := fun pc L st h v h' => ∃ n, kv_fix B n pc L st h v h'
theorem kv_lim_S {B : (Nat → kv_D) → Nat → kv_D} (hB : ∀ K : Nat → kv_D, (∀ pc, kv_S cc nL own Ts ret ini fr lo sc pc (K pc)) → ∀ pc, kv_S cc nL own Ts ret ini fr lo sc pc (B K pc)) : ∀ pc, kv_S cc nL own Ts ret ini fr lo sc pc (kv_lim B pc) := by
  intro pc L st h v h' hn
  obtain ⟨n, hn⟩ := hn
  have key : ∀ n pc, kv_S cc nL own Ts ret ini fr lo sc pc (kv_fix B n pc) := by
    intro n
    induction n with
    | zero => intro pc; exact kv_none
    | succ n ih => exact hB _ ih
  exact key n pc L st h v h' hn
theorem kv_lim_step {B : (Nat → kv_D) → Nat → kv_D} {q : Nat} {L : List (Option Value)} {st : List Value} {h : kv_H} {v : Option Value} {h' : kv_H} (hs : ∃ n, B (kv_fix B n) q L st h v h') : kv_lim B q L st h v h' := by
  obtain ⟨n, hn⟩ := hs
  exact ⟨n + 1, hn⟩
end KVF
end
section
section KVG
variable {h h1 h' : kv_H} {a c z : Nat} {e e0 : va_E} {F : kv_D} {M : kv_M} {L : List (Option Value)} {r : List Value} {v v1 : Option Value}
theorem kv_g_of (h1 : 1 ≤ a) (h2 : a ≤ h.2.1) (h3 : h.1 a = e) : kv_g h a = some e := by
  unfold kv_g
  rw [if_pos ⟨h1, h2⟩, h3]
theorem kv_gp_self (hg : kv_g h a = some e0) : kv_g (kv_p h a e) a = some e := by
  obtain ⟨h1, h2, -⟩ := kv_g_le hg
  exact kv_g_of h1 h2 (va_up_self _ _ _)
theorem kv_gp_ne (hne : c ≠ a) : kv_g (kv_p h a e) c = kv_g h c := by
  unfold kv_g kv_p
  simp only [va_up_ne _ _ hne]
theorem kv_gn_self : kv_g (kv_n h e z) (h.2.1 + 1) = some e := kv_g_of (by omega) (Nat.le_refl _) (va_up_self _ _ _)
theorem kv_gn_old (hg : kv_g h a = some e0) : kv_g (kv_n h e z) a = some e0 := by
  obtain ⟨h1, h2, h3⟩ := kv_g_le hg
  exact kv_g_of h1 (by show a ≤ h.2.1 + 1; omega) (by show va_up h.1 (h.2.1 + 1) e a = e0; rw [va_up_ne _ _ (by omega)]; exact h3)
/-- what changed: the cells of P alone -/
def kv_fr (P : Nat → Prop) (h h' : kv_H) : Prop := h'.2 = h.2 ∧ ∀ a, ¬ P a → kv_g h' a = kv_g h a
theorem kv_fr.rf {P : Nat → Prop} : kv_fr P h h := ⟨rfl, fun _ _ => rfl⟩
theorem kv_fr.tr {P : Nat → Prop} (x : kv_fr P h h1) (y : kv_fr P h1 h') : kv_fr P h h' := ⟨y.1.trans x.1, fun a ha => (y.2 a ha).trans (x.2 a ha)⟩
theorem kv_fr.mono {P Q : Nat → Prop} (x : kv_fr P h h1) (hpq : ∀ a, P a → Q a) : kv_fr Q h h1 := ⟨x.1, fun a ha => x.2 a (fun q => ha (hpq a q))⟩
theorem kv_fr.p {P : Nat → Prop} (x : kv_fr P h h1) (hp : P a) : kv_fr P h (kv_p h1 a e) := ⟨x.1, fun c hc => by
  rw [kv_gp_ne (fun q => hc (by rw [q]; exact hp))]
  exact x.2 c hc⟩
theorem kv_fr.at {P : Nat → Prop} (x : kv_fr P h h1) (hg : kv_g h a = some e) (hp : ¬ P a) : kv_g h1 a = some e := (x.2 a hp).trans hg
theorem e_callV0 {ci : Nat} {fs : List Value} (hg : kv_g h a = some (.inr (ci, fs))) (hM : M [.ref a] h v1 h1) (hr : (r.map fun v => v.category).sum ≤ 8) (hF : F L (v1.toList ++ r) h1 v h') : o_callV ci 0 M F L (.ref a :: r) h v h' := ⟨[], a, r, fs, v1, h1, rfl, rfl, hr, hg, hM, hF⟩
theorem e_callI0 (hM : M [.ref a] h v1 h1) (hr : (r.map fun v => v.category).sum ≤ 8) (hF : F L (v1.toList ++ r) h1 v h') : o_callI 0 M F L (.ref a :: r) h v h' := ⟨[], a, r, v1, h1, rfl, rfl, hr, hM, hF⟩
theorem e_callS0 (hM : M [] h v1 h1) (hr : (r.map fun v => v.category).sum ≤ 8) (hF : F L (v1.toList ++ r) h1 v h') : o_callS 0 M F L (r) h v h' := ⟨[], r, v1, h1, rfl, rfl, hr, hM, hF⟩
theorem e_callV1 {ci : Nat} {fs : List Value} {x1 : Value} (hg : kv_g h a = some (.inr (ci, fs))) (hM : M [.ref a, x1] h v1 h1) (hr : (r.map fun v => v.category).sum ≤ 8) (hF : F L (v1.toList ++ r) h1 v h') : o_callV ci 1 M F L (x1 :: .ref a :: r) h v h' := ⟨[x1], a, r, fs, v1, h1, rfl, rfl, hr, hg, hM, hF⟩
theorem e_callI1 {x1 : Value} (hM : M [.ref a, x1] h v1 h1) (hr : (r.map fun v => v.category).sum ≤ 8) (hF : F L (v1.toList ++ r) h1 v h') : o_callI 1 M F L (x1 :: .ref a :: r) h v h' := ⟨[x1], a, r, v1, h1, rfl, rfl, hr, hM, hF⟩
theorem e_callS1 {x1 : Value} (hM : M [x1] h v1 h1) (hr : (r.map fun v => v.category).sum ≤ 8) (hF : F L (v1.toList ++ r) h1 v h') : o_callS 1 M F L (x1 :: r) h v h' := ⟨[x1], r, v1, h1, rfl, rfl, hr, hM, hF⟩
theorem e_callV2 {ci : Nat} {fs : List Value} {x1 x2 : Value} (hg : kv_g h a = some (.inr (ci, fs))) (hM : M [.ref a, x1, x2] h v1 h1) (hr : (r.map fun v => v.category).sum ≤ 8) (hF : F L (v1.toList ++ r) h1 v h') : o_callV ci 2 M F L (x2 :: x1 :: .ref a :: r) h v h' := ⟨[x1, x2], a, r, fs, v1, h1, rfl, rfl, hr, hg, hM, hF⟩
theorem e_callI2 {x1 x2 : Value} (hM : M [.ref a, x1, x2] h v1 h1) (hr : (r.map fun v => v.category).sum ≤ 8) (hF : F L (v1.toList ++ r) h1 v h') : o_callI 2 M F L (x2 :: x1 :: .ref a :: r) h v h' := ⟨[x1, x2], a, r, v1, h1, rfl, rfl, hr, hM, hF⟩
theorem e_callS2 {x1 x2 : Value} (hM : M [x1, x2] h v1 h1) (hr : (r.map fun v => v.category).sum ≤ 8) (hF : F L (v1.toList ++ r) h1 v h') : o_callS 2 M F L (x2 :: x1 :: r) h v h' := ⟨[x1, x2], r, v1, h1, rfl, rfl, hr, hM, hF⟩
theorem e_callV3 {ci : Nat} {fs : List Value} {x1 x2 x3 : Value} (hg : kv_g h a = some (.inr (ci, fs))) (hM : M [.ref a, x1, x2, x3] h v1 h1) (hr : (r.map fun v => v.category).sum ≤ 8) (hF : F L (v1.toList ++ r) h1 v h') : o_callV ci 3 M F L (x3 :: x2 :: x1 :: .ref a :: r) h v h' := ⟨[x1, x2, x3], a, r, fs, v1, h1, rfl, rfl, hr, hg, hM, hF⟩
theorem e_callI3 {x1 x2 x3 : Value} (hM : M [.ref a, x1, x2, x3] h v1 h1) (hr : (r.map fun v => v.category).sum ≤ 8) (hF : F L (v1.toList ++ r) h1 v h') : o_callI 3 M F L (x3 :: x2 :: x1 :: .ref a :: r) h v h' := ⟨[x1, x2, x3], a, r, v1, h1, rfl, rfl, hr, hM, hF⟩
theorem e_callS3 {x1 x2 x3 : Value} (hM : M [x1, x2, x3] h v1 h1) (hr : (r.map fun v => v.category).sum ≤ 8) (hF : F L (v1.toList ++ r) h1 v h') : o_callS 3 M F L (x3 :: x2 :: x1 :: r) h v h' := ⟨[x1, x2, x3], r, v1, h1, rfl, rfl, hr, hM, hF⟩
theorem e_callV4 {ci : Nat} {fs : List Value} {x1 x2 x3 x4 : Value} (hg : kv_g h a = some (.inr (ci, fs))) (hM : M [.ref a, x1, x2, x3, x4] h v1 h1) (hr : (r.map fun v => v.category).sum ≤ 8) (hF : F L (v1.toList ++ r) h1 v h') : o_callV ci 4 M F L (x4 :: x3 :: x2 :: x1 :: .ref a :: r) h v h' := ⟨[x1, x2, x3, x4], a, r, fs, v1, h1, rfl, rfl, hr, hg, hM, hF⟩
theorem e_callI4 {x1 x2 x3 x4 : Value} (hM : M [.ref a, x1, x2, x3, x4] h v1 h1) (hr : (r.map fun v => v.category).sum ≤ 8) (hF : F L (v1.toList ++ r) h1 v h') : o_callI 4 M F L (x4 :: x3 :: x2 :: x1 :: .ref a :: r) h v h' := ⟨[x1, x2, x3, x4], a, r, v1, h1, rfl, rfl, hr, hM, hF⟩
theorem e_callS4 {x1 x2 x3 x4 : Value} (hM : M [x1, x2, x3, x4] h v1 h1) (hr : (r.map fun v => v.category).sum ≤ 8) (hF : F L (v1.toList ++ r) h1 v h') : o_callS 4 M F L (x4 :: x3 :: x2 :: x1 :: r) h v h' := ⟨[x1, x2, x3, x4], r, v1, h1, rfl, rfl, hr, hM, hF⟩
theorem e_callV5 {ci : Nat} {fs : List Value} {x1 x2 x3 x4 x5 : Value} (hg : kv_g h a = some (.inr (ci, fs))) (hM : M [.ref a, x1, x2, x3, x4, x5] h v1 h1) (hr : (r.map fun v => v.category).sum ≤ 8) (hF : F L (v1.toList ++ r) h1 v h') : o_callV ci 5 M F L (x5 :: x4 :: x3 :: x2 :: x1 :: .ref a :: r) h v h' := ⟨[x1, x2, x3, x4, x5], a, r, fs, v1, h1, rfl, rfl, hr, hg, hM, hF⟩
theorem e_callI5 {x1 x2 x3 x4 x5 : Value} (hM : M [.ref a, x1, x2, x3, x4, x5] h v1 h1) (hr : (r.map fun v => v.category).sum ≤ 8) (hF : F L (v1.toList ++ r) h1 v h') : o_callI 5 M F L (x5 :: x4 :: x3 :: x2 :: x1 :: .ref a :: r) h v h' := ⟨[x1, x2, x3, x4, x5], a, r, v1, h1, rfl, rfl, hr, hM, hF⟩
theorem e_callS5 {x1 x2 x3 x4 x5 : Value} (hM : M [x1, x2, x3, x4, x5] h v1 h1) (hr : (r.map fun v => v.category).sum ≤ 8) (hF : F L (v1.toList ++ r) h1 v h') : o_callS 5 M F L (x5 :: x4 :: x3 :: x2 :: x1 :: r) h v h' := ⟨[x1, x2, x3, x4, x5], r, v1, h1, rfl, rfl, hr, hM, hF⟩
end KVG
end
section
/-! a denotation asks its loop heads once, at its end: a loop's limit is its own unrolling -/
def kv_cn (G : (Nat → kv_D) → kv_D) : Prop := ∀ (Kn : Nat → Nat → kv_D) (L : List (Option Value)) (st : List Value) (h : kv_H) (v : Option Value) (h' : kv_H), G (fun t L st h v h' => ∃ n, Kn n t L st h v h') L st h v h' → ∃ n, G (Kn n) L st h v h'
theorem kv_un {B : (Nat → kv_D) → Nat → kv_D} {q : Nat} (hB : kv_cn (fun K => B K q)) {L : List (Option Value)} {st : List Value} {h : kv_H} {v : Option Value} {h' : kv_H} (hx : B (kv_lim B) q L st h v h') : kv_lim B q L st h v h' := by
  obtain ⟨n, hn⟩ := hB (kv_fix B) L st h v h' hx
  exact ⟨n + 1, hn⟩
theorem cn_K (t : Nat) : kv_cn (fun K => K t) := fun _ _ _ _ _ _ h => h
theorem cn_c (F : kv_D) : kv_cn (fun _ => F) := fun _ _ _ _ _ _ h => ⟨0, h⟩
section KVH
variable {G G1 G2 : (Nat → kv_D) → kv_D}
theorem cn_const (x : Int32) (c : kv_cn G) : kv_cn (fun K => o_const x (G K)) := fun Kn L st h v h' hF => by
  have hF : o_const x (G _) L st h v h' := hF
  show ∃ n, o_const x (G (Kn n)) L st h v h'
  unfold o_const at hF ⊢
  exact c Kn _ _ _ _ _ hF
theorem cn_new (a b : Nat) (fs : List Value) (c : kv_cn G) : kv_cn (fun K => o_new a b fs (G K)) := fun Kn L st h v h' hF => by
  have hF : o_new a b fs (G _) L st h v h' := hF
  show ∃ n, o_new a b fs (G (Kn n)) L st h v h'
  unfold o_new at hF ⊢
  exact c Kn _ _ _ _ _ hF
theorem cn_iload (i : Nat) (c : kv_cn G) : kv_cn (fun K => o_iload i (G K)) := fun Kn L st h v h' hF => by
  have hF : o_iload i (G _) L st h v h' := hF
  show ∃ n, o_iload i (G (Kn n)) L st h v h'
  unfold o_iload at hF ⊢
  split at hF
  · exact c Kn _ _ _ _ _ hF
  · exact hF.elim
theorem cn_aload (i : Nat) (c : kv_cn G) : kv_cn (fun K => o_aload i (G K)) := fun Kn L st h v h' hF => by
  have hF : o_aload i (G _) L st h v h' := hF
  show ∃ n, o_aload i (G (Kn n)) L st h v h'
  unfold o_aload at hF ⊢
  split at hF
  · exact c Kn _ _ _ _ _ hF
  · exact hF.elim
theorem cn_iinc (i : Nat) (k : Int32) (c : kv_cn G) : kv_cn (fun K => o_iinc i k (G K)) := fun Kn L st h v h' hF => by
  have hF : o_iinc i k (G _) L st h v h' := hF
  show ∃ n, o_iinc i k (G (Kn n)) L st h v h'
  unfold o_iinc at hF ⊢
  split at hF
  · exact c Kn _ _ _ _ _ hF
  · exact hF.elim
theorem cn_istore (i : Nat) (c : kv_cn G) : kv_cn (fun K => o_istore i (G K)) := fun Kn L st h v h' hF => by
  have hF : o_istore i (G _) L st h v h' := hF
  show ∃ n, o_istore i (G (Kn n)) L st h v h'
  unfold o_istore at hF ⊢
  split at hF
  · exact c Kn _ _ _ _ _ hF
  · exact hF.elim
theorem cn_astore (i : Nat) (c : kv_cn G) : kv_cn (fun K => o_astore i (G K)) := fun Kn L st h v h' hF => by
  have hF : o_astore i (G _) L st h v h' := hF
  show ∃ n, o_astore i (G (Kn n)) L st h v h'
  unfold o_astore at hF ⊢
  split at hF
  · exact c Kn _ _ _ _ _ hF
  · exact hF.elim
theorem cn_iadd (c : kv_cn G) : kv_cn (fun K => o_iadd (G K)) := fun Kn L st h v h' hF => by
  have hF : o_iadd (G _) L st h v h' := hF
  show ∃ n, o_iadd (G (Kn n)) L st h v h'
  unfold o_iadd at hF ⊢
  split at hF
  · exact c Kn _ _ _ _ _ hF
  · exact hF.elim
theorem cn_isub (c : kv_cn G) : kv_cn (fun K => o_isub (G K)) := fun Kn L st h v h' hF => by
  have hF : o_isub (G _) L st h v h' := hF
  show ∃ n, o_isub (G (Kn n)) L st h v h'
  unfold o_isub at hF ⊢
  split at hF
  · exact c Kn _ _ _ _ _ hF
  · exact hF.elim
theorem cn_imul (c : kv_cn G) : kv_cn (fun K => o_imul (G K)) := fun Kn L st h v h' hF => by
  have hF : o_imul (G _) L st h v h' := hF
  show ∃ n, o_imul (G (Kn n)) L st h v h'
  unfold o_imul at hF ⊢
  split at hF
  · exact c Kn _ _ _ _ _ hF
  · exact hF.elim
theorem cn_iand (c : kv_cn G) : kv_cn (fun K => o_iand (G K)) := fun Kn L st h v h' hF => by
  have hF : o_iand (G _) L st h v h' := hF
  show ∃ n, o_iand (G (Kn n)) L st h v h'
  unfold o_iand at hF ⊢
  split at hF
  · exact c Kn _ _ _ _ _ hF
  · exact hF.elim
theorem cn_ior (c : kv_cn G) : kv_cn (fun K => o_ior (G K)) := fun Kn L st h v h' hF => by
  have hF : o_ior (G _) L st h v h' := hF
  show ∃ n, o_ior (G (Kn n)) L st h v h'
  unfold o_ior at hF ⊢
  split at hF
  · exact c Kn _ _ _ _ _ hF
  · exact hF.elim
theorem cn_ixor (c : kv_cn G) : kv_cn (fun K => o_ixor (G K)) := fun Kn L st h v h' hF => by
  have hF : o_ixor (G _) L st h v h' := hF
  show ∃ n, o_ixor (G (Kn n)) L st h v h'
  unfold o_ixor at hF ⊢
  split at hF
  · exact c Kn _ _ _ _ _ hF
  · exact hF.elim
theorem cn_ishl (c : kv_cn G) : kv_cn (fun K => o_ishl (G K)) := fun Kn L st h v h' hF => by
  have hF : o_ishl (G _) L st h v h' := hF
  show ∃ n, o_ishl (G (Kn n)) L st h v h'
  unfold o_ishl at hF ⊢
  split at hF
  · exact c Kn _ _ _ _ _ hF
  · exact hF.elim
theorem cn_ishr (c : kv_cn G) : kv_cn (fun K => o_ishr (G K)) := fun Kn L st h v h' hF => by
  have hF : o_ishr (G _) L st h v h' := hF
  show ∃ n, o_ishr (G (Kn n)) L st h v h'
  unfold o_ishr at hF ⊢
  split at hF
  · exact c Kn _ _ _ _ _ hF
  · exact hF.elim
theorem cn_iushr (c : kv_cn G) : kv_cn (fun K => o_iushr (G K)) := fun Kn L st h v h' hF => by
  have hF : o_iushr (G _) L st h v h' := hF
  show ∃ n, o_iushr (G (Kn n)) L st h v h'
  unfold o_iushr at hF ⊢
  split at hF
  · exact c Kn _ _ _ _ _ hF
  · exact hF.elim
theorem cn_ineg (c : kv_cn G) : kv_cn (fun K => o_ineg (G K)) := fun Kn L st h v h' hF => by
  have hF : o_ineg (G _) L st h v h' := hF
  show ∃ n, o_ineg (G (Kn n)) L st h v h'
  unfold o_ineg at hF ⊢
  split at hF
  · exact c Kn _ _ _ _ _ hF
  · exact hF.elim
theorem cn_i2c (c : kv_cn G) : kv_cn (fun K => o_i2c (G K)) := fun Kn L st h v h' hF => by
  have hF : o_i2c (G _) L st h v h' := hF
  show ∃ n, o_i2c (G (Kn n)) L st h v h'
  unfold o_i2c at hF ⊢
  split at hF
  · exact c Kn _ _ _ _ _ hF
  · exact hF.elim
theorem cn_idiv (c : kv_cn G) : kv_cn (fun K => o_idiv (G K)) := fun Kn L st h v h' hF => by
  have hF : o_idiv (G _) L st h v h' := hF
  show ∃ n, o_idiv (G (Kn n)) L st h v h'
  unfold o_idiv at hF ⊢
  split at hF
  · obtain ⟨n, hn⟩ := c Kn _ _ _ _ _ hF.2
    exact ⟨n, hF.1, hn⟩
  · exact hF.elim
theorem cn_irem (c : kv_cn G) : kv_cn (fun K => o_irem (G K)) := fun Kn L st h v h' hF => by
  have hF : o_irem (G _) L st h v h' := hF
  show ∃ n, o_irem (G (Kn n)) L st h v h'
  unfold o_irem at hF ⊢
  split at hF
  · obtain ⟨n, hn⟩ := c Kn _ _ _ _ _ hF.2
    exact ⟨n, hF.1, hn⟩
  · exact hF.elim
theorem cn_dup (c : kv_cn G) : kv_cn (fun K => o_dup (G K)) := fun Kn L st h v h' hF => by
  have hF : o_dup (G _) L st h v h' := hF
  show ∃ n, o_dup (G (Kn n)) L st h v h'
  unfold o_dup at hF ⊢
  split at hF
  · obtain ⟨n, hn⟩ := c Kn _ _ _ _ _ hF.2
    exact ⟨n, hF.1, hn⟩
  · exact hF.elim
theorem cn_pop (c : kv_cn G) : kv_cn (fun K => o_pop (G K)) := fun Kn L st h v h' hF => by
  have hF : o_pop (G _) L st h v h' := hF
  show ∃ n, o_pop (G (Kn n)) L st h v h'
  unfold o_pop at hF ⊢
  split at hF
  · obtain ⟨n, hn⟩ := c Kn _ _ _ _ _ hF.2
    exact ⟨n, hF.1, hn⟩
  · exact hF.elim
theorem cn_dup_x1 (c : kv_cn G) : kv_cn (fun K => o_dup_x1 (G K)) := fun Kn L st h v h' hF => by
  have hF : o_dup_x1 (G _) L st h v h' := hF
  show ∃ n, o_dup_x1 (G (Kn n)) L st h v h'
  unfold o_dup_x1 at hF ⊢
  split at hF
  · obtain ⟨n, hn⟩ := c Kn _ _ _ _ _ hF.2
    exact ⟨n, hF.1, hn⟩
  · exact hF.elim
theorem cn_dup_x2 (c : kv_cn G) : kv_cn (fun K => o_dup_x2 (G K)) := fun Kn L st h v h' hF => by
  have hF : o_dup_x2 (G _) L st h v h' := hF
  show ∃ n, o_dup_x2 (G (Kn n)) L st h v h'
  unfold o_dup_x2 at hF ⊢
  split at hF
  · obtain ⟨n, hn⟩ := c Kn _ _ _ _ _ hF.2
    exact ⟨n, hF.1, hn⟩
  · exact hF.elim
theorem cn_dup2 (c : kv_cn G) : kv_cn (fun K => o_dup2 (G K)) := fun Kn L st h v h' hF => by
  have hF : o_dup2 (G _) L st h v h' := hF
  show ∃ n, o_dup2 (G (Kn n)) L st h v h'
  unfold o_dup2 at hF ⊢
  split at hF
  · obtain ⟨n, hn⟩ := c Kn _ _ _ _ _ hF.2
    exact ⟨n, hF.1, hn⟩
  · exact hF.elim
theorem cn_max (c : kv_cn G) : kv_cn (fun K => o_max (G K)) := fun Kn L st h v h' hF => by
  have hF : o_max (G _) L st h v h' := hF
  show ∃ n, o_max (G (Kn n)) L st h v h'
  unfold o_max at hF ⊢
  split at hF
  · obtain ⟨n, hn⟩ := c Kn _ _ _ _ _ hF.2
    exact ⟨n, hF.1, hn⟩
  · exact hF.elim
theorem cn_obj (c : kv_cn G) : kv_cn (fun K => o_obj (G K)) := fun Kn L st h v h' hF => by
  have hF : o_obj (G _) L st h v h' := hF
  show ∃ n, o_obj (G (Kn n)) L st h v h'
  unfold o_obj at hF ⊢
  split at hF
  · obtain ⟨n, hn⟩ := c Kn _ _ _ _ _ hF.2
    exact ⟨n, hF.1, hn⟩
  · exact hF.elim
theorem cn_sld (N : Nat) (xs : Nat → Int32) (c : kv_cn G) : kv_cn (fun K => o_sld N xs (G K)) := fun Kn L st h v h' hF => by
  have hF : o_sld N xs (G _) L st h v h' := hF
  show ∃ n, o_sld N xs (G (Kn n)) L st h v h'
  unfold o_sld at hF ⊢
  split at hF
  · obtain ⟨n, hn⟩ := c Kn _ _ _ _ _ hF.2
    exact ⟨n, hF.1, hn⟩
  · exact hF.elim
theorem cn_slen (N : Nat) (c : kv_cn G) : kv_cn (fun K => o_slen N (G K)) := fun Kn L st h v h' hF => by
  have hF : o_slen N (G _) L st h v h' := hF
  show ∃ n, o_slen N (G (Kn n)) L st h v h'
  unfold o_slen at hF ⊢
  split at hF
  · exact c Kn _ _ _ _ _ hF
  · exact hF.elim
theorem cn_newa (t : Nat) (ty : FieldType) (c : kv_cn G) : kv_cn (fun K => o_newa t ty (G K)) := fun Kn L st h v h' hF => by
  have hF : o_newa t ty (G _) L st h v h' := hF
  show ∃ n, o_newa t ty (G (Kn n)) L st h v h'
  unfold o_newa at hF ⊢
  split at hF
  · obtain ⟨n, hn⟩ := c Kn _ _ _ _ _ hF.2
    exact ⟨n, hF.1, hn⟩
  · exact hF.elim
theorem cn_newq (t : Nat) (c : kv_cn G) : kv_cn (fun K => o_newq t (G K)) := fun Kn L st h v h' hF => by
  have hF : o_newq t (G _) L st h v h' := hF
  show ∃ n, o_newq t (G (Kn n)) L st h v h'
  unfold o_newq at hF ⊢
  split at hF
  · obtain ⟨n, hn⟩ := c Kn _ _ _ _ _ hF.2
    exact ⟨n, hF.1, hn⟩
  · exact hF.elim
theorem cn_getf (a b : Nat) (c : kv_cn G) : kv_cn (fun K => o_getf a b (G K)) := fun Kn L st h v h' hF => by
  have hF : o_getf a b (G _) L st h v h' := hF
  show ∃ n, o_getf a b (G (Kn n)) L st h v h'
  unfold o_getf at hF ⊢
  split at hF
  · split at hF
    · obtain ⟨h1, x, h2, hF⟩ := hF
      obtain ⟨n, hn⟩ := c Kn _ _ _ _ _ hF
      exact ⟨n, h1, x, h2, hn⟩
    · exact hF.elim
  · exact hF.elim
theorem cn_putf (a b : Nat) (ty : FieldType) (c : kv_cn G) : kv_cn (fun K => o_putf a b ty (G K)) := fun Kn L st h v h' hF => by
  have hF : o_putf a b ty (G _) L st h v h' := hF
  show ∃ n, o_putf a b ty (G (Kn n)) L st h v h'
  unfold o_putf at hF ⊢
  split at hF
  · split at hF
    · obtain ⟨n, hn⟩ := c Kn _ _ _ _ _ hF.2
      exact ⟨n, hF.1, hn⟩
    · exact hF.elim
  · exact hF.elim
theorem cn_iald (t : Nat) (c : kv_cn G) : kv_cn (fun K => o_iald t (G K)) := fun Kn L st h v h' hF => by
  have hF : o_iald t (G _) L st h v h' := hF
  show ∃ n, o_iald t (G (Kn n)) L st h v h'
  unfold o_iald at hF ⊢
  split at hF
  · split at hF
    · obtain ⟨n, hn⟩ := c Kn _ _ _ _ _ hF.2
      exact ⟨n, hF.1, hn⟩
    · exact hF.elim
  · exact hF.elim
theorem cn_iast (t : Nat) (f : Int32 → Int32) (c : kv_cn G) : kv_cn (fun K => o_iast t f (G K)) := fun Kn L st h v h' hF => by
  have hF : o_iast t f (G _) L st h v h' := hF
  show ∃ n, o_iast t f (G (Kn n)) L st h v h'
  unfold o_iast at hF ⊢
  split at hF
  · split at hF
    · obtain ⟨n, hn⟩ := c Kn _ _ _ _ _ hF.2
      exact ⟨n, hF.1, hn⟩
    · exact hF.elim
  · exact hF.elim
theorem cn_alen (c : kv_cn G) : kv_cn (fun K => o_alen (G K)) := fun Kn L st h v h' hF => by
  have hF : o_alen (G _) L st h v h' := hF
  show ∃ n, o_alen (G (Kn n)) L st h v h'
  unfold o_alen at hF ⊢
  split at hF
  · split at hF
    · obtain ⟨n, hn⟩ := c Kn _ _ _ _ _ hF.2
      exact ⟨n, hF.1, hn⟩
    · exact hF.elim
  · exact hF.elim
theorem cn_aald (t : Nat) (c : kv_cn G) : kv_cn (fun K => o_aald t (G K)) := fun Kn L st h v h' hF => by
  have hF : o_aald t (G _) L st h v h' := hF
  show ∃ n, o_aald t (G (Kn n)) L st h v h'
  unfold o_aald at hF ⊢
  split at hF
  · split at hF
    · obtain ⟨n, hn⟩ := c Kn _ _ _ _ _ hF.2
      exact ⟨n, hF.1, hn⟩
    · exact hF.elim
  · exact hF.elim
theorem cn_aast (t a : Nat) (c : kv_cn G) : kv_cn (fun K => o_aast t a (G K)) := fun Kn L st h v h' hF => by
  have hF : o_aast t a (G _) L st h v h' := hF
  show ∃ n, o_aast t a (G (Kn n)) L st h v h'
  unfold o_aast at hF ⊢
  split at hF
  · split at hF
    · obtain ⟨n, hn⟩ := c Kn _ _ _ _ _ hF.2
      exact ⟨n, hF.1, hn⟩
    · exact hF.elim
  · exact hF.elim
theorem cn_copy (t : Nat) (ty : FieldType) (c : kv_cn G) : kv_cn (fun K => o_copy t ty (G K)) := fun Kn L st h v h' hF => by
  have hF : o_copy t ty (G _) L st h v h' := hF
  show ∃ n, o_copy t ty (G (Kn n)) L st h v h'
  unfold o_copy at hF ⊢
  split at hF
  · split at hF
    · obtain ⟨n, hn⟩ := c Kn _ _ _ _ _ hF.2
      exact ⟨n, hF.1, hn⟩
    · exact hF.elim
  · exact hF.elim
theorem cn_callV (a b : Nat) (M : kv_M) (c : kv_cn G) : kv_cn (fun K => o_callV a b M (G K)) := fun Kn L st h v h' hF => by
  have hF : o_callV a b M (G _) L st h v h' := hF
  show ∃ n, o_callV a b M (G (Kn n)) L st h v h'
  unfold o_callV at hF ⊢
  obtain ⟨As, a, r, fs, v1, h1, g1, g2, g3, g4, g5, hF⟩ := hF
  obtain ⟨n, hn⟩ := c Kn _ _ _ _ _ hF
  exact ⟨n, As, a, r, fs, v1, h1, g1, g2, g3, g4, g5, hn⟩
theorem cn_callI (b : Nat) (M : kv_M) (c : kv_cn G) : kv_cn (fun K => o_callI b M (G K)) := fun Kn L st h v h' hF => by
  have hF : o_callI b M (G _) L st h v h' := hF
  show ∃ n, o_callI b M (G (Kn n)) L st h v h'
  unfold o_callI at hF ⊢
  obtain ⟨As, a, r, v1, h1, g1, g2, g3, g4, hF⟩ := hF
  obtain ⟨n, hn⟩ := c Kn _ _ _ _ _ hF
  exact ⟨n, As, a, r, v1, h1, g1, g2, g3, g4, hn⟩
theorem cn_callS (b : Nat) (M : kv_M) (c : kv_cn G) : kv_cn (fun K => o_callS b M (G K)) := fun Kn L st h v h' hF => by
  have hF : o_callS b M (G _) L st h v h' := hF
  show ∃ n, o_callS b M (G (Kn n)) L st h v h'
  unfold o_callS at hF ⊢
  obtain ⟨As, r, v1, h1, g1, g2, g3, g4, hF⟩ := hF
  obtain ⟨n, hn⟩ := c Kn _ _ _ _ _ hF
  exact ⟨n, As, r, v1, h1, g1, g2, g3, g4, hn⟩
theorem cn_ifeq (c1 : kv_cn G1) (c2 : kv_cn G2) : kv_cn (fun K => o_ifeq (G1 K) (G2 K)) := fun Kn L st h v h' hF => by
  have hF : o_ifeq (G1 _) (G2 _) L st h v h' := hF
  show ∃ n, o_ifeq (G1 (Kn n)) (G2 (Kn n)) L st h v h'
  unfold o_ifeq at hF ⊢
  split at hF
  · split at hF
    · rename_i q
      obtain ⟨n, hn⟩ := c1 Kn _ _ _ _ _ hF
      exact ⟨n, by rw [if_pos q]; exact hn⟩
    · rename_i q
      obtain ⟨n, hn⟩ := c2 Kn _ _ _ _ _ hF
      exact ⟨n, by rw [if_neg q]; exact hn⟩
  · exact hF.elim
theorem cn_ifne (c1 : kv_cn G1) (c2 : kv_cn G2) : kv_cn (fun K => o_ifne (G1 K) (G2 K)) := fun Kn L st h v h' hF => by
  have hF : o_ifne (G1 _) (G2 _) L st h v h' := hF
  show ∃ n, o_ifne (G1 (Kn n)) (G2 (Kn n)) L st h v h'
  unfold o_ifne at hF ⊢
  split at hF
  · split at hF
    · rename_i q
      obtain ⟨n, hn⟩ := c1 Kn _ _ _ _ _ hF
      exact ⟨n, by rw [if_pos q]; exact hn⟩
    · rename_i q
      obtain ⟨n, hn⟩ := c2 Kn _ _ _ _ _ hF
      exact ⟨n, by rw [if_neg q]; exact hn⟩
  · exact hF.elim
theorem cn_iflt (c1 : kv_cn G1) (c2 : kv_cn G2) : kv_cn (fun K => o_iflt (G1 K) (G2 K)) := fun Kn L st h v h' hF => by
  have hF : o_iflt (G1 _) (G2 _) L st h v h' := hF
  show ∃ n, o_iflt (G1 (Kn n)) (G2 (Kn n)) L st h v h'
  unfold o_iflt at hF ⊢
  split at hF
  · split at hF
    · rename_i q
      obtain ⟨n, hn⟩ := c1 Kn _ _ _ _ _ hF
      exact ⟨n, by rw [if_pos q]; exact hn⟩
    · rename_i q
      obtain ⟨n, hn⟩ := c2 Kn _ _ _ _ _ hF
      exact ⟨n, by rw [if_neg q]; exact hn⟩
  · exact hF.elim
theorem cn_ifge (c1 : kv_cn G1) (c2 : kv_cn G2) : kv_cn (fun K => o_ifge (G1 K) (G2 K)) := fun Kn L st h v h' hF => by
  have hF : o_ifge (G1 _) (G2 _) L st h v h' := hF
  show ∃ n, o_ifge (G1 (Kn n)) (G2 (Kn n)) L st h v h'
  unfold o_ifge at hF ⊢
  split at hF
  · split at hF
    · rename_i q
      obtain ⟨n, hn⟩ := c1 Kn _ _ _ _ _ hF
      exact ⟨n, by rw [if_pos q]; exact hn⟩
    · rename_i q
      obtain ⟨n, hn⟩ := c2 Kn _ _ _ _ _ hF
      exact ⟨n, by rw [if_neg q]; exact hn⟩
  · exact hF.elim
theorem cn_ifgt (c1 : kv_cn G1) (c2 : kv_cn G2) : kv_cn (fun K => o_ifgt (G1 K) (G2 K)) := fun Kn L st h v h' hF => by
  have hF : o_ifgt (G1 _) (G2 _) L st h v h' := hF
  show ∃ n, o_ifgt (G1 (Kn n)) (G2 (Kn n)) L st h v h'
  unfold o_ifgt at hF ⊢
  split at hF
  · split at hF
    · rename_i q
      obtain ⟨n, hn⟩ := c1 Kn _ _ _ _ _ hF
      exact ⟨n, by rw [if_pos q]; exact hn⟩
    · rename_i q
      obtain ⟨n, hn⟩ := c2 Kn _ _ _ _ _ hF
      exact ⟨n, by rw [if_neg q]; exact hn⟩
  · exact hF.elim
theorem cn_ifle (c1 : kv_cn G1) (c2 : kv_cn G2) : kv_cn (fun K => o_ifle (G1 K) (G2 K)) := fun Kn L st h v h' hF => by
  have hF : o_ifle (G1 _) (G2 _) L st h v h' := hF
  show ∃ n, o_ifle (G1 (Kn n)) (G2 (Kn n)) L st h v h'
  unfold o_ifle at hF ⊢
  split at hF
  · split at hF
    · rename_i q
      obtain ⟨n, hn⟩ := c1 Kn _ _ _ _ _ hF
      exact ⟨n, by rw [if_pos q]; exact hn⟩
    · rename_i q
      obtain ⟨n, hn⟩ := c2 Kn _ _ _ _ _ hF
      exact ⟨n, by rw [if_neg q]; exact hn⟩
  · exact hF.elim
theorem cn_iceq (c1 : kv_cn G1) (c2 : kv_cn G2) : kv_cn (fun K => o_iceq (G1 K) (G2 K)) := fun Kn L st h v h' hF => by
  have hF : o_iceq (G1 _) (G2 _) L st h v h' := hF
  show ∃ n, o_iceq (G1 (Kn n)) (G2 (Kn n)) L st h v h'
  unfold o_iceq at hF ⊢
  split at hF
  · split at hF
    · rename_i q
      obtain ⟨n, hn⟩ := c1 Kn _ _ _ _ _ hF
      exact ⟨n, by rw [if_pos q]; exact hn⟩
    · rename_i q
      obtain ⟨n, hn⟩ := c2 Kn _ _ _ _ _ hF
      exact ⟨n, by rw [if_neg q]; exact hn⟩
  · exact hF.elim
theorem cn_icne (c1 : kv_cn G1) (c2 : kv_cn G2) : kv_cn (fun K => o_icne (G1 K) (G2 K)) := fun Kn L st h v h' hF => by
  have hF : o_icne (G1 _) (G2 _) L st h v h' := hF
  show ∃ n, o_icne (G1 (Kn n)) (G2 (Kn n)) L st h v h'
  unfold o_icne at hF ⊢
  split at hF
  · split at hF
    · rename_i q
      obtain ⟨n, hn⟩ := c1 Kn _ _ _ _ _ hF
      exact ⟨n, by rw [if_pos q]; exact hn⟩
    · rename_i q
      obtain ⟨n, hn⟩ := c2 Kn _ _ _ _ _ hF
      exact ⟨n, by rw [if_neg q]; exact hn⟩
  · exact hF.elim
theorem cn_iclt (c1 : kv_cn G1) (c2 : kv_cn G2) : kv_cn (fun K => o_iclt (G1 K) (G2 K)) := fun Kn L st h v h' hF => by
  have hF : o_iclt (G1 _) (G2 _) L st h v h' := hF
  show ∃ n, o_iclt (G1 (Kn n)) (G2 (Kn n)) L st h v h'
  unfold o_iclt at hF ⊢
  split at hF
  · split at hF
    · rename_i q
      obtain ⟨n, hn⟩ := c1 Kn _ _ _ _ _ hF
      exact ⟨n, by rw [if_pos q]; exact hn⟩
    · rename_i q
      obtain ⟨n, hn⟩ := c2 Kn _ _ _ _ _ hF
      exact ⟨n, by rw [if_neg q]; exact hn⟩
  · exact hF.elim
theorem cn_icge (c1 : kv_cn G1) (c2 : kv_cn G2) : kv_cn (fun K => o_icge (G1 K) (G2 K)) := fun Kn L st h v h' hF => by
  have hF : o_icge (G1 _) (G2 _) L st h v h' := hF
  show ∃ n, o_icge (G1 (Kn n)) (G2 (Kn n)) L st h v h'
  unfold o_icge at hF ⊢
  split at hF
  · split at hF
    · rename_i q
      obtain ⟨n, hn⟩ := c1 Kn _ _ _ _ _ hF
      exact ⟨n, by rw [if_pos q]; exact hn⟩
    · rename_i q
      obtain ⟨n, hn⟩ := c2 Kn _ _ _ _ _ hF
      exact ⟨n, by rw [if_neg q]; exact hn⟩
  · exact hF.elim
theorem cn_icgt (c1 : kv_cn G1) (c2 : kv_cn G2) : kv_cn (fun K => o_icgt (G1 K) (G2 K)) := fun Kn L st h v h' hF => by
  have hF : o_icgt (G1 _) (G2 _) L st h v h' := hF
  show ∃ n, o_icgt (G1 (Kn n)) (G2 (Kn n)) L st h v h'
  unfold o_icgt at hF ⊢
  split at hF
  · split at hF
    · rename_i q
      obtain ⟨n, hn⟩ := c1 Kn _ _ _ _ _ hF
      exact ⟨n, by rw [if_pos q]; exact hn⟩
    · rename_i q
      obtain ⟨n, hn⟩ := c2 Kn _ _ _ _ _ hF
      exact ⟨n, by rw [if_neg q]; exact hn⟩
  · exact hF.elim
theorem cn_icle (c1 : kv_cn G1) (c2 : kv_cn G2) : kv_cn (fun K => o_icle (G1 K) (G2 K)) := fun Kn L st h v h' hF => by
  have hF : o_icle (G1 _) (G2 _) L st h v h' := hF
  show ∃ n, o_icle (G1 (Kn n)) (G2 (Kn n)) L st h v h'
  unfold o_icle at hF ⊢
  split at hF
  · split at hF
    · rename_i q
      obtain ⟨n, hn⟩ := c1 Kn _ _ _ _ _ hF
      exact ⟨n, by rw [if_pos q]; exact hn⟩
    · rename_i q
      obtain ⟨n, hn⟩ := c2 Kn _ _ _ _ _ hF
      exact ⟨n, by rw [if_neg q]; exact hn⟩
  · exact hF.elim
theorem cn_tsw (a : Int) {Gs : List ((Nat → kv_D) → kv_D)} {D : (Nat → kv_D) → kv_D} (cs : ∀ G ∈ Gs, kv_cn G) (cd : kv_cn D) : kv_cn (fun K => o_tsw a (Gs.map (fun G => G K)) (D K)) := fun Kn L st h v h' hF => by
  dsimp only at hF
  show ∃ n, o_tsw a (Gs.map (fun G => G (Kn n))) (D (Kn n)) L st h v h'
  unfold o_tsw at hF ⊢
  split at hF
  · split at hF
    · rename_i x r q
      obtain ⟨n, hn⟩ := cd Kn _ _ _ _ _ hF
      refine ⟨n, ?_⟩
      rw [if_pos (by simpa using q)]
      exact hn
    · rename_i x r q
      obtain ⟨F, hF1, hF⟩ := hF
      rw [List.getElem?_map] at hF1
      cases hg : Gs[(x.toInt - a).toNat]? with
      | none => rw [hg] at hF1; cases hF1
      | some G =>
        rw [hg] at hF1
        cases hF1
        obtain ⟨n, hn⟩ := cs G (List.mem_of_getElem? hg) Kn _ _ _ _ _ hF
        refine ⟨n, ?_⟩
        rw [if_neg (by simpa using q)]
        exact ⟨G (Kn n), by rw [List.getElem?_map, hg]; rfl, hn⟩
  · exact hF.elim
end KVH
end
section
theorem dX2_clearMeanings_21 : decode cX2_clearMeanings 21 = .ok (.return_, 1) := by decide +kernel
theorem dX2_clearMeanings_8 : decode cX2_clearMeanings 8 = .ok (.aload_n 0, 1) := by decide +kernel
theorem dX2_clearMeanings_9 : decode cX2_clearMeanings 9 = .ok (.getfield 22, 3) := by decide +kernel
theorem dX2_clearMeanings_12 : decode cX2_clearMeanings 12 = .ok (.iload_n 1, 1) := by decide +kernel
theorem dX2_clearMeanings_13 : decode cX2_clearMeanings 13 = .ok (.iconst (-1), 1) := by decide +kernel
theorem dX2_clearMeanings_14 : decode cX2_clearMeanings 14 = .ok (.iastore, 1) := by decide +kernel
theorem dX2_clearMeanings_15 : decode cX2_clearMeanings 15 = .ok (.iinc 1 1, 3) := by decide +kernel
theorem dX2_clearMeanings_18 : decode cX2_clearMeanings 18 = .ok (.goto (-16), 3) := by decide +kernel
theorem dX2_clearMeanings_2 : decode cX2_clearMeanings 2 = .ok (.iload_n 1, 1) := by decide +kernel
theorem dX2_clearMeanings_3 : decode cX2_clearMeanings 3 = .ok (.bipush 26, 2) := by decide +kernel
theorem dX2_clearMeanings_5 : decode cX2_clearMeanings 5 = .ok (.if_icmp .ge 16, 3) := by decide +kernel
theorem dX2_clearMeanings_0 : decode cX2_clearMeanings 0 = .ok (.iconst 0, 1) := by decide +kernel
theorem dX2_clearMeanings_1 : decode cX2_clearMeanings 1 = .ok (.istore_n 1, 1) := by decide +kernel
theorem dX2_init_0 : decode cX2_init 0 = .ok (.aload_n 0, 1) := by decide +kernel
theorem dX2_init_1 : decode cX2_init 1 = .ok (.invokespecial 3, 3) := by decide +kernel
theorem dX2_init_4 : decode cX2_init 4 = .ok (.aload_n 0, 1) := by decide +kernel
theorem dX2_init_5 : decode cX2_init 5 = .ok (.bipush 48, 2) := by decide +kernel
theorem dX2_init_7 : decode cX2_init 7 = .ok (.newarray .char, 2) := by decide +kernel
theorem dX2_init_9 : decode cX2_init 9 = .ok (.putfield 9, 3) := by decide +kernel
theorem dX2_init_12 : decode cX2_init 12 = .ok (.aload_n 0, 1) := by decide +kernel
theorem dX2_init_13 : decode cX2_init 13 = .ok (.iconst 0, 1) := by decide +kernel
theorem dX2_init_14 : decode cX2_init 14 = .ok (.putfield 15, 3) := by decide +kernel
theorem dX2_init_17 : decode cX2_init 17 = .ok (.aload_n 0, 1) := by decide +kernel
theorem dX2_init_18 : decode cX2_init 18 = .ok (.iconst 0, 1) := by decide +kernel
theorem dX2_init_19 : decode cX2_init 19 = .ok (.putfield 19, 3) := by decide +kernel
theorem dX2_init_22 : decode cX2_init 22 = .ok (.aload_n 0, 1) := by decide +kernel
theorem dX2_init_23 : decode cX2_init 23 = .ok (.bipush 26, 2) := by decide +kernel
theorem dX2_init_25 : decode cX2_init 25 = .ok (.newarray .int, 2) := by decide +kernel
theorem dX2_init_27 : decode cX2_init 27 = .ok (.putfield 22, 3) := by decide +kernel
theorem dX2_init_30 : decode cX2_init 30 = .ok (.aload_n 0, 1) := by decide +kernel
theorem dX2_init_31 : decode cX2_init 31 = .ok (.iconst 0, 1) := by decide +kernel
theorem dX2_init_32 : decode cX2_init 32 = .ok (.putfield 26, 3) := by decide +kernel
theorem dX2_init_35 : decode cX2_init 35 = .ok (.aload_n 0, 1) := by decide +kernel
theorem dX2_init_36 : decode cX2_init 36 = .ok (.iconst 0, 1) := by decide +kernel
theorem dX2_init_37 : decode cX2_init 37 = .ok (.putfield 29, 3) := by decide +kernel
theorem dX2_init_40 : decode cX2_init 40 = .ok (.aload_n 0, 1) := by decide +kernel
theorem dX2_init_41 : decode cX2_init 41 = .ok (.invokevirtual 33, 3) := by decide +kernel
theorem dX2_init_44 : decode cX2_init 44 = .ok (.return_, 1) := by decide +kernel
theorem dX1_init_0 : decode cX1_init 0 = .ok (.aload_n 0, 1) := by decide +kernel
theorem dX1_init_1 : decode cX1_init 1 = .ok (.invokespecial 3, 3) := by decide +kernel
theorem dX1_init_4 : decode cX1_init 4 = .ok (.aload_n 0, 1) := by decide +kernel
theorem dX1_init_5 : decode cX1_init 5 = .ok (.bipush 12, 2) := by decide +kernel
theorem dX1_init_7 : decode cX1_init 7 = .ok (.newarray .int, 2) := by decide +kernel
theorem dX1_init_9 : decode cX1_init 9 = .ok (.putfield 9, 3) := by decide +kernel
theorem dX1_init_12 : decode cX1_init 12 = .ok (.aload_n 0, 1) := by decide +kernel
theorem dX1_init_13 : decode cX1_init 13 = .ok (.bipush 12, 2) := by decide +kernel
theorem dX1_init_15 : decode cX1_init 15 = .ok (.newarray .int, 2) := by decide +kernel
theorem dX1_init_17 : decode cX1_init 17 = .ok (.putfield 15, 3) := by decide +kernel
theorem dX1_init_20 : decode cX1_init 20 = .ok (.aload_n 0, 1) := by decide +kernel
theorem dX1_init_21 : decode cX1_init 21 = .ok (.bipush 12, 2) := by decide +kernel
theorem dX1_init_23 : decode cX1_init 23 = .ok (.newarray .int, 2) := by decide +kernel
theorem dX1_init_25 : decode cX1_init 25 = .ok (.putfield 18, 3) := by decide +kernel
theorem dX1_init_28 : decode cX1_init 28 = .ok (.aload_n 0, 1) := by decide +kernel
theorem dX1_init_29 : decode cX1_init 29 = .ok (.iconst 0, 1) := by decide +kernel
theorem dX1_init_30 : decode cX1_init 30 = .ok (.putfield 21, 3) := by decide +kernel
theorem dX1_init_33 : decode cX1_init 33 = .ok (.aload_n 0, 1) := by decide +kernel
theorem dX1_init_34 : decode cX1_init 34 = .ok (.iconst 0, 1) := by decide +kernel
theorem dX1_init_35 : decode cX1_init 35 = .ok (.putfield 25, 3) := by decide +kernel
theorem dX1_init_38 : decode cX1_init 38 = .ok (.aload_n 0, 1) := by decide +kernel
theorem dX1_init_39 : decode cX1_init 39 = .ok (.iconst 0, 1) := by decide +kernel
theorem dX1_init_40 : decode cX1_init 40 = .ok (.putfield 28, 3) := by decide +kernel
theorem dX1_init_43 : decode cX1_init 43 = .ok (.aload_n 0, 1) := by decide +kernel
theorem dX1_init_44 : decode cX1_init 44 = .ok (.iconst 0, 1) := by decide +kernel
theorem dX1_init_45 : decode cX1_init 45 = .ok (.putfield 31, 3) := by decide +kernel
theorem dX1_init_48 : decode cX1_init 48 = .ok (.aload_n 0, 1) := by decide +kernel
theorem dX1_init_49 : decode cX1_init 49 = .ok (.iconst 3, 1) := by decide +kernel
theorem dX1_init_50 : decode cX1_init 50 = .ok (.newarray .int, 2) := by decide +kernel
theorem dX1_init_52 : decode cX1_init 52 = .ok (.putfield 35, 3) := by decide +kernel
theorem dX1_init_55 : decode cX1_init 55 = .ok (.aload_n 0, 1) := by decide +kernel
theorem dX1_init_56 : decode cX1_init 56 = .ok (.iconst 3, 1) := by decide +kernel
theorem dX1_init_57 : decode cX1_init 57 = .ok (.newarray .int, 2) := by decide +kernel
theorem dX1_init_59 : decode cX1_init 59 = .ok (.putfield 38, 3) := by decide +kernel
theorem dX1_init_62 : decode cX1_init 62 = .ok (.aload_n 0, 1) := by decide +kernel
theorem dX1_init_63 : decode cX1_init 63 = .ok (.iconst 0, 1) := by decide +kernel
theorem dX1_init_64 : decode cX1_init 64 = .ok (.putfield 41, 3) := by decide +kernel
theorem dX1_init_67 : decode cX1_init 67 = .ok (.aload_n 0, 1) := by decide +kernel
theorem dX1_init_68 : decode cX1_init 68 = .ok (.bipush 12, 2) := by decide +kernel
theorem dX1_init_70 : decode cX1_init 70 = .ok (.newarray .char, 2) := by decide +kernel
theorem dX1_init_72 : decode cX1_init 72 = .ok (.putfield 44, 3) := by decide +kernel
theorem dX1_init_75 : decode cX1_init 75 = .ok (.aload_n 0, 1) := by decide +kernel
theorem dX1_init_76 : decode cX1_init 76 = .ok (.iconst 0, 1) := by decide +kernel
theorem dX1_init_77 : decode cX1_init 77 = .ok (.putfield 48, 3) := by decide +kernel
theorem dX1_init_80 : decode cX1_init 80 = .ok (.aload_n 0, 1) := by decide +kernel
theorem dX1_init_81 : decode cX1_init 81 = .ok (.iconst 0, 1) := by decide +kernel
theorem dX1_init_82 : decode cX1_init 82 = .ok (.putfield 51, 3) := by decide +kernel
theorem dX1_init_85 : decode cX1_init 85 = .ok (.aload_n 0, 1) := by decide +kernel
theorem dX1_init_86 : decode cX1_init 86 = .ok (.iconst 0, 1) := by decide +kernel
theorem dX1_init_87 : decode cX1_init 87 = .ok (.putfield 54, 3) := by decide +kernel
theorem dX1_init_90 : decode cX1_init 90 = .ok (.return_, 1) := by decide +kernel
theorem dX3_init_0 : decode cX3_init 0 = .ok (.aload_n 0, 1) := by decide +kernel
theorem dX3_init_1 : decode cX3_init 1 = .ok (.invokespecial 3, 3) := by decide +kernel
theorem dX3_init_4 : decode cX3_init 4 = .ok (.aload_n 0, 1) := by decide +kernel
theorem dX3_init_5 : decode cX3_init 5 = .ok (.bipush 60, 2) := by decide +kernel
theorem dX3_init_7 : decode cX3_init 7 = .ok (.newarray .char, 2) := by decide +kernel
theorem dX3_init_9 : decode cX3_init 9 = .ok (.putfield 9, 3) := by decide +kernel
theorem dX3_init_12 : decode cX3_init 12 = .ok (.aload_n 0, 1) := by decide +kernel
theorem dX3_init_13 : decode cX3_init 13 = .ok (.bipush 60, 2) := by decide +kernel
theorem dX3_init_15 : decode cX3_init 15 = .ok (.newarray .char, 2) := by decide +kernel
theorem dX3_init_17 : decode cX3_init 17 = .ok (.putfield 15, 3) := by decide +kernel
theorem dX3_init_20 : decode cX3_init 20 = .ok (.aload_n 0, 1) := by decide +kernel
theorem dX3_init_21 : decode cX3_init 21 = .ok (.iconst 0, 1) := by decide +kernel
theorem dX3_init_22 : decode cX3_init 22 = .ok (.putfield 18, 3) := by decide +kernel
theorem dX3_init_25 : decode cX3_init 25 = .ok (.aload_n 0, 1) := by decide +kernel
theorem dX3_init_26 : decode cX3_init 26 = .ok (.iconst 0, 1) := by decide +kernel
theorem dX3_init_27 : decode cX3_init 27 = .ok (.putfield 22, 3) := by decide +kernel
theorem dX3_init_30 : decode cX3_init 30 = .ok (.return_, 1) := by decide +kernel
theorem dX0_init_0 : decode cX0_init 0 = .ok (.aload_n 0, 1) := by decide +kernel
theorem dX0_init_1 : decode cX0_init 1 = .ok (.invokespecial 3, 3) := by decide +kernel
theorem dX0_init_4 : decode cX0_init 4 = .ok (.aload_n 0, 1) := by decide +kernel
theorem dX0_init_5 : decode cX0_init 5 = .ok (.bipush 13, 2) := by decide +kernel
theorem dX0_init_7 : decode cX0_init 7 = .ok (.newarray .int, 2) := by decide +kernel
theorem dX0_init_9 : decode cX0_init 9 = .ok (.putfield 9, 3) := by decide +kernel
theorem dX0_init_12 : decode cX0_init 12 = .ok (.return_, 1) := by decide +kernel
theorem dX4_init_51 : decode cX4_init 51 = .ok (.aload_n 0, 1) := by decide +kernel
theorem dX4_init_52 : decode cX4_init 52 = .ok (.iconst 0, 1) := by decide +kernel
theorem dX4_init_53 : decode cX4_init 53 = .ok (.putfield 23, 3) := by decide +kernel
theorem dX4_init_56 : decode cX4_init 56 = .ok (.aload_n 0, 1) := by decide +kernel
theorem dX4_init_57 : decode cX4_init 57 = .ok (.new 27, 3) := by decide +kernel
theorem dX4_init_60 : decode cX4_init 60 = .ok (.dup, 1) := by decide +kernel
theorem dX4_init_61 : decode cX4_init 61 = .ok (.invokespecial 29, 3) := by decide +kernel
theorem dX4_init_64 : decode cX4_init 64 = .ok (.putfield 30, 3) := by decide +kernel
theorem dX4_init_67 : decode cX4_init 67 = .ok (.aload_n 0, 1) := by decide +kernel
theorem dX4_init_68 : decode cX4_init 68 = .ok (.new 34, 3) := by decide +kernel
theorem dX4_init_71 : decode cX4_init 71 = .ok (.dup, 1) := by decide +kernel
theorem dX4_init_72 : decode cX4_init 72 = .ok (.invokespecial 36, 3) := by decide +kernel
theorem dX4_init_75 : decode cX4_init 75 = .ok (.putfield 37, 3) := by decide +kernel
theorem dX4_init_78 : decode cX4_init 78 = .ok (.aload_n 0, 1) := by decide +kernel
theorem dX4_init_79 : decode cX4_init 79 = .ok (.iconst 0, 1) := by decide +kernel
theorem dX4_init_80 : decode cX4_init 80 = .ok (.putfield 41, 3) := by decide +kernel
theorem dX4_init_83 : decode cX4_init 83 = .ok (.aload_n 0, 1) := by decide +kernel
theorem dX4_init_84 : decode cX4_init 84 = .ok (.iconst (-1), 1) := by decide +kernel
theorem dX4_init_85 : decode cX4_init 85 = .ok (.putfield 44, 3) := by decide +kernel
theorem dX4_init_88 : decode cX4_init 88 = .ok (.aload_n 0, 1) := by decide +kernel
theorem dX4_init_89 : decode cX4_init 89 = .ok (.iconst 0, 1) := by decide +kernel
theorem dX4_init_90 : decode cX4_init 90 = .ok (.putfield 47, 3) := by decide +kernel
theorem dX4_init_93 : decode cX4_init 93 = .ok (.return_, 1) := by decide +kernel
theorem dX4_init_32 : decode cX4_init 32 = .ok (.aload_n 0, 1) := by decide +kernel
theorem dX4_init_33 : decode cX4_init 33 = .ok (.getfield 18, 3) := by decide +kernel
theorem dX4_init_36 : decode cX4_init 36 = .ok (.iload_n 1, 1) := by decide +kernel
theorem dX4_init_37 : decode cX4_init 37 = .ok (.new 16, 3) := by decide +kernel
theorem dX4_init_40 : decode cX4_init 40 = .ok (.dup, 1) := by decide +kernel
theorem dX4_init_41 : decode cX4_init 41 = .ok (.invokespecial 22, 3) := by decide +kernel
theorem dX4_init_44 : decode cX4_init 44 = .ok (.aastore, 1) := by decide +kernel
theorem dX4_init_45 : decode cX4_init 45 = .ok (.iinc 1 1, 3) := by decide +kernel
theorem dX4_init_48 : decode cX4_init 48 = .ok (.goto (-22), 3) := by decide +kernel
theorem dX4_init_26 : decode cX4_init 26 = .ok (.iload_n 1, 1) := by decide +kernel
theorem dX4_init_27 : decode cX4_init 27 = .ok (.bipush 8, 2) := by decide +kernel
theorem dX4_init_29 : decode cX4_init 29 = .ok (.if_icmp .gt 22, 3) := by decide +kernel
theorem dX4_init_0 : decode cX4_init 0 = .ok (.aload_n 0, 1) := by decide +kernel
theorem dX4_init_1 : decode cX4_init 1 = .ok (.invokespecial 3, 3) := by decide +kernel
theorem dX4_init_4 : decode cX4_init 4 = .ok (.aload_n 0, 1) := by decide +kernel
theorem dX4_init_5 : decode cX4_init 5 = .ok (.new 9, 3) := by decide +kernel
theorem dX4_init_8 : decode cX4_init 8 = .ok (.dup, 1) := by decide +kernel
theorem dX4_init_9 : decode cX4_init 9 = .ok (.invokespecial 11, 3) := by decide +kernel
theorem dX4_init_12 : decode cX4_init 12 = .ok (.putfield 12, 3) := by decide +kernel
theorem dX4_init_15 : decode cX4_init 15 = .ok (.aload_n 0, 1) := by decide +kernel
theorem dX4_init_16 : decode cX4_init 16 = .ok (.bipush 9, 2) := by decide +kernel
theorem dX4_init_18 : decode cX4_init 18 = .ok (.anewarray 16, 3) := by decide +kernel
theorem dX4_init_21 : decode cX4_init 21 = .ok (.putfield 18, 3) := by decide +kernel
theorem dX4_init_24 : decode cX4_init 24 = .ok (.iconst 0, 1) := by decide +kernel
theorem dX4_init_25 : decode cX4_init 25 = .ok (.istore_n 1, 1) := by decide +kernel
theorem dX4_isCapital_17 : decode cX4_isCapital 17 = .ok (.ireturn, 1) := by decide +kernel
theorem dX4_isCapital_16 : decode cX4_isCapital 16 = .ok (.iconst 0, 1) := by decide +kernel
theorem dX4_isCapital_12 : decode cX4_isCapital 12 = .ok (.iconst 1, 1) := by decide +kernel
theorem dX4_isCapital_13 : decode cX4_isCapital 13 = .ok (.goto 4, 3) := by decide +kernel
theorem dX4_isCapital_6 : decode cX4_isCapital 6 = .ok (.iload_n 0, 1) := by decide +kernel
theorem dX4_isCapital_7 : decode cX4_isCapital 7 = .ok (.bipush 90, 2) := by decide +kernel
theorem dX4_isCapital_9 : decode cX4_isCapital 9 = .ok (.if_icmp .gt 7, 3) := by decide +kernel
theorem dX4_isCapital_0 : decode cX4_isCapital 0 = .ok (.iload_n 0, 1) := by decide +kernel
theorem dX4_isCapital_1 : decode cX4_isCapital 1 = .ok (.bipush 65, 2) := by decide +kernel
theorem dX4_isCapital_3 : decode cX4_isCapital 3 = .ok (.if_icmp .lt 13, 3) := by decide +kernel
theorem dX2_looksLikeDefinition_36 : decode cX2_looksLikeDefinition 36 = .ok (.ireturn, 1) := by decide +kernel
theorem dX2_looksLikeDefinition_35 : decode cX2_looksLikeDefinition 35 = .ok (.iconst 0, 1) := by decide +kernel
theorem dX2_looksLikeDefinition_31 : decode cX2_looksLikeDefinition 31 = .ok (.iconst 1, 1) := by decide +kernel
theorem dX2_looksLikeDefinition_32 : decode cX2_looksLikeDefinition 32 = .ok (.goto 4, 3) := by decide +kernel
theorem dX2_looksLikeDefinition_20 : decode cX2_looksLikeDefinition 20 = .ok (.aload_n 0, 1) := by decide +kernel
theorem dX2_looksLikeDefinition_21 : decode cX2_looksLikeDefinition 21 = .ok (.getfield 9, 3) := by decide +kernel
theorem dX2_looksLikeDefinition_24 : decode cX2_looksLikeDefinition 24 = .ok (.iconst 1, 1) := by decide +kernel
theorem dX2_looksLikeDefinition_25 : decode cX2_looksLikeDefinition 25 = .ok (.caload, 1) := by decide +kernel
theorem dX2_looksLikeDefinition_26 : decode cX2_looksLikeDefinition 26 = .ok (.bipush 61, 2) := by decide +kernel
theorem dX2_looksLikeDefinition_28 : decode cX2_looksLikeDefinition 28 = .ok (.if_icmp .ne 7, 3) := by decide +kernel
theorem dX2_looksLikeDefinition_8 : decode cX2_looksLikeDefinition 8 = .ok (.aload_n 0, 1) := by decide +kernel
theorem dX2_looksLikeDefinition_9 : decode cX2_looksLikeDefinition 9 = .ok (.getfield 9, 3) := by decide +kernel
theorem dX2_looksLikeDefinition_12 : decode cX2_looksLikeDefinition 12 = .ok (.iconst 0, 1) := by decide +kernel
theorem dX2_looksLikeDefinition_13 : decode cX2_looksLikeDefinition 13 = .ok (.caload, 1) := by decide +kernel
theorem dX2_looksLikeDefinition_14 : decode cX2_looksLikeDefinition 14 = .ok (.invokestatic 36, 3) := by decide +kernel
theorem dX2_looksLikeDefinition_17 : decode cX2_looksLikeDefinition 17 = .ok (.ifCond .eq 18, 3) := by decide +kernel
theorem dX2_looksLikeDefinition_0 : decode cX2_looksLikeDefinition 0 = .ok (.aload_n 0, 1) := by decide +kernel
theorem dX2_looksLikeDefinition_1 : decode cX2_looksLikeDefinition 1 = .ok (.getfield 15, 3) := by decide +kernel
theorem dX2_looksLikeDefinition_4 : decode cX2_looksLikeDefinition 4 = .ok (.iconst 2, 1) := by decide +kernel
theorem dX2_looksLikeDefinition_5 : decode cX2_looksLikeDefinition 5 = .ok (.if_icmp .lt 30, 3) := by decide +kernel
theorem dX2_next_24 : decode cX2_next 24 = .ok (.ireturn, 1) := by decide +kernel
theorem dX2_next_23 : decode cX2_next 23 = .ok (.iconst 0, 1) := by decide +kernel
theorem dX2_next_11 : decode cX2_next 11 = .ok (.aload_n 0, 1) := by decide +kernel
theorem dX2_next_12 : decode cX2_next 12 = .ok (.getfield 9, 3) := by decide +kernel
theorem dX2_next_15 : decode cX2_next 15 = .ok (.aload_n 0, 1) := by decide +kernel
theorem dX2_next_16 : decode cX2_next 16 = .ok (.getfield 19, 3) := by decide +kernel
theorem dX2_next_19 : decode cX2_next 19 = .ok (.caload, 1) := by decide +kernel
theorem dX2_next_20 : decode cX2_next 20 = .ok (.goto 4, 3) := by decide +kernel
theorem dX2_next_0 : decode cX2_next 0 = .ok (.aload_n 0, 1) := by decide +kernel
theorem dX2_next_1 : decode cX2_next 1 = .ok (.getfield 19, 3) := by decide +kernel
theorem dX2_next_4 : decode cX2_next 4 = .ok (.aload_n 0, 1) := by decide +kernel
theorem dX2_next_5 : decode cX2_next 5 = .ok (.getfield 15, 3) := by decide +kernel
theorem dX2_next_8 : decode cX2_next 8 = .ok (.if_icmp .ge 15, 3) := by decide +kernel
theorem dX4_isSmall_17 : decode cX4_isSmall 17 = .ok (.ireturn, 1) := by decide +kernel
theorem dX4_isSmall_16 : decode cX4_isSmall 16 = .ok (.iconst 0, 1) := by decide +kernel
theorem dX4_isSmall_12 : decode cX4_isSmall 12 = .ok (.iconst 1, 1) := by decide +kernel
theorem dX4_isSmall_13 : decode cX4_isSmall 13 = .ok (.goto 4, 3) := by decide +kernel
theorem dX4_isSmall_6 : decode cX4_isSmall 6 = .ok (.iload_n 0, 1) := by decide +kernel
theorem dX4_isSmall_7 : decode cX4_isSmall 7 = .ok (.bipush 122, 2) := by decide +kernel
theorem dX4_isSmall_9 : decode cX4_isSmall 9 = .ok (.if_icmp .gt 7, 3) := by decide +kernel
theorem dX4_isSmall_0 : decode cX4_isSmall 0 = .ok (.iload_n 0, 1) := by decide +kernel
theorem dX4_isSmall_1 : decode cX4_isSmall 1 = .ok (.bipush 97, 2) := by decide +kernel
theorem dX4_isSmall_3 : decode cX4_isSmall 3 = .ok (.if_icmp .lt 13, 3) := by decide +kernel
theorem dX2_lettersFromTo_0 : decode cX2_lettersFromTo 0 = .ok (.iconst 1, 1) := by decide +kernel
theorem dX2_lettersFromTo_1 : decode cX2_lettersFromTo 1 = .ok (.iload_n 1, 1) := by decide +kernel
theorem dX2_lettersFromTo_2 : decode cX2_lettersFromTo 2 = .ok (.bipush 97, 2) := by decide +kernel
theorem dX2_lettersFromTo_4 : decode cX2_lettersFromTo 4 = .ok (.isub, 1) := by decide +kernel
theorem dX2_lettersFromTo_5 : decode cX2_lettersFromTo 5 = .ok (.iconst 1, 1) := by decide +kernel
theorem dX2_lettersFromTo_6 : decode cX2_lettersFromTo 6 = .ok (.iadd, 1) := by decide +kernel
theorem dX2_lettersFromTo_7 : decode cX2_lettersFromTo 7 = .ok (.ishl, 1) := by decide +kernel
theorem dX2_lettersFromTo_8 : decode cX2_lettersFromTo 8 = .ok (.iconst 1, 1) := by decide +kernel
theorem dX2_lettersFromTo_9 : decode cX2_lettersFromTo 9 = .ok (.iload_n 0, 1) := by decide +kernel
theorem dX2_lettersFromTo_10 : decode cX2_lettersFromTo 10 = .ok (.bipush 97, 2) := by decide +kernel
theorem dX2_lettersFromTo_12 : decode cX2_lettersFromTo 12 = .ok (.isub, 1) := by decide +kernel
theorem dX2_lettersFromTo_13 : decode cX2_lettersFromTo 13 = .ok (.ishl, 1) := by decide +kernel
theorem dX2_lettersFromTo_14 : decode cX2_lettersFromTo 14 = .ok (.isub, 1) := by decide +kernel
theorem dX2_lettersFromTo_15 : decode cX2_lettersFromTo 15 = .ok (.ireturn, 1) := by decide +kernel
theorem dX2_skip_26 : decode cX2_skip 26 = .ok (.aload_n 0, 1) := by decide +kernel
theorem dX2_skip_27 : decode cX2_skip 27 = .ok (.dup, 1) := by decide +kernel
theorem dX2_skip_28 : decode cX2_skip 28 = .ok (.getfield 19, 3) := by decide +kernel
theorem dX2_skip_31 : decode cX2_skip 31 = .ok (.iconst 1, 1) := by decide +kernel
theorem dX2_skip_32 : decode cX2_skip 32 = .ok (.iadd, 1) := by decide +kernel
theorem dX2_skip_33 : decode cX2_skip 33 = .ok (.putfield 19, 3) := by decide +kernel
theorem dX2_skip_36 : decode cX2_skip 36 = .ok (.iconst 1, 1) := by decide +kernel
theorem dX2_skip_37 : decode cX2_skip 37 = .ok (.ireturn, 1) := by decide +kernel
theorem dX2_skip_24 : decode cX2_skip 24 = .ok (.iconst 0, 1) := by decide +kernel
theorem dX2_skip_25 : decode cX2_skip 25 = .ok (.ireturn, 1) := by decide +kernel
theorem dX2_skip_11 : decode cX2_skip 11 = .ok (.aload_n 0, 1) := by decide +kernel
theorem dX2_skip_12 : decode cX2_skip 12 = .ok (.getfield 9, 3) := by decide +kernel
theorem dX2_skip_15 : decode cX2_skip 15 = .ok (.aload_n 0, 1) := by decide +kernel
theorem dX2_skip_16 : decode cX2_skip 16 = .ok (.getfield 19, 3) := by decide +kernel
theorem dX2_skip_19 : decode cX2_skip 19 = .ok (.caload, 1) := by decide +kernel
theorem dX2_skip_20 : decode cX2_skip 20 = .ok (.iload_n 1, 1) := by decide +kernel
theorem dX2_skip_21 : decode cX2_skip 21 = .ok (.if_icmp .eq 5, 3) := by decide +kernel
theorem dX2_skip_0 : decode cX2_skip 0 = .ok (.aload_n 0, 1) := by decide +kernel
theorem dX2_skip_1 : decode cX2_skip 1 = .ok (.getfield 19, 3) := by decide +kernel
theorem dX2_skip_4 : decode cX2_skip 4 = .ok (.aload_n 0, 1) := by decide +kernel
theorem dX2_skip_5 : decode cX2_skip 5 = .ok (.getfield 15, 3) := by decide +kernel
theorem dX2_skip_8 : decode cX2_skip 8 = .ok (.if_icmp .ge 16, 3) := by decide +kernel
-- X2_clearMeanings
def wX2_clearMeanings : List Cond := Cond.code yX2_clearMeanings cX2_clearMeanings 2 none :: kv_tb
abbrev SX2_clearMeanings (pc : Nat) (F : kv_D) : Prop := kv_S cX2_clearMeanings 2 RX2 wX2_clearMeanings none false 0 0 none pc F
def fX2_clearMeanings_21 (K : Nat → kv_D) : kv_D := o_ret
theorem sX2_clearMeanings_21 {K : Nat → kv_D} (hK : ∀ pc, SX2_clearMeanings pc (K pc)) : SX2_clearMeanings 21 (fX2_clearMeanings_21 K) := k_ret dX2_clearMeanings_21 rfl
theorem nX2_clearMeanings_21 : kv_cn (fun K => fX2_clearMeanings_21 K) := cn_c _
def fX2_clearMeanings_8 (K : Nat → kv_D) : kv_D := o_aload 0 (o_getf 2 3 (o_iload 1 (o_const (-1) (o_iast 0 (fun x => x) (o_iinc 1 1 ((K 2)))))))
theorem sX2_clearMeanings_8 {K : Nat → kv_D} (hK : ∀ pc, SX2_clearMeanings pc (K pc)) : SX2_clearMeanings 8 (fX2_clearMeanings_8 K) := k_aload_n dX2_clearMeanings_8 rfl (k_getf (C := RX2) (T := TX2) (N := 6) (ci := 2) (index := 22) (kf := 3) dX2_clearMeanings_9 rfl (fun w h => List.mem_cons_of_mem _ (inX2 w h)) (by decide) (List.mem_cons_of_mem _ mw_30) (k_iload_n dX2_clearMeanings_12 rfl (k_iconst dX2_clearMeanings_13 (by decide +kernel) (k_iast dX2_clearMeanings_14 rfl (k_iinc dX2_clearMeanings_15 (by decide +kernel) (by decide) (k_goto dX2_clearMeanings_18 rfl (hK 2)))))))
theorem nX2_clearMeanings_8 : kv_cn (fun K => fX2_clearMeanings_8 K) := cn_aload 0 (cn_getf 2 3 (cn_iload 1 (cn_const (-1) (cn_iast 0 (fun x => x) (cn_iinc 1 1 ((cn_K 2)))))))
def fX2_clearMeanings_2 (K : Nat → kv_D) : kv_D := o_iload 1 (o_const 26 (o_icge (fX2_clearMeanings_21 K) (fX2_clearMeanings_8 K)))
theorem sX2_clearMeanings_2 {K : Nat → kv_D} (hK : ∀ pc, SX2_clearMeanings pc (K pc)) : SX2_clearMeanings 2 (fX2_clearMeanings_2 K) := k_iload_n dX2_clearMeanings_2 rfl (k_bipush dX2_clearMeanings_3 (by decide +kernel) (k_icge dX2_clearMeanings_5 rfl (sX2_clearMeanings_21 hK) (sX2_clearMeanings_8 hK)))
theorem nX2_clearMeanings_2 : kv_cn (fun K => fX2_clearMeanings_2 K) := cn_iload 1 (cn_const 26 (cn_icge nX2_clearMeanings_21 nX2_clearMeanings_8))
def fX2_clearMeanings_0 (K : Nat → kv_D) : kv_D := o_const 0 (o_istore 1 ((K 2)))
theorem sX2_clearMeanings_0 {K : Nat → kv_D} (hK : ∀ pc, SX2_clearMeanings pc (K pc)) : SX2_clearMeanings 0 (fX2_clearMeanings_0 K) := k_iconst dX2_clearMeanings_0 (by decide +kernel) (k_istore_n dX2_clearMeanings_1 rfl (by decide) ((hK 2)))
theorem nX2_clearMeanings_0 : kv_cn (fun K => fX2_clearMeanings_0 K) := cn_const 0 (cn_istore 1 ((cn_K 2)))
def bX2_clearMeanings (K : Nat → kv_D) (pc : Nat) : kv_D := if pc = 2 then fX2_clearMeanings_2 K else fun _ _ _ _ _ => False
theorem hX2_clearMeanings : ∀ pc, SX2_clearMeanings pc (kv_lim (bX2_clearMeanings) pc) := kv_lim_S (fun K hK pc => by
  unfold bX2_clearMeanings
  by_cases q2 : pc = 2
  · rw [if_pos q2, q2]
    exact sX2_clearMeanings_2 hK
  rw [if_neg q2]
  exact kv_none)
theorem uX2_clearMeanings_2 {L : List (Option Value)} {st : List Value} {h : kv_H} {v : Option Value} {h' : kv_H} (hx : fX2_clearMeanings_2 (kv_lim (bX2_clearMeanings)) L st h v h') : kv_lim (bX2_clearMeanings) 2 L st h v h' := kv_un (q := 2) (by have e : (fun K => bX2_clearMeanings K 2) = fun K => fX2_clearMeanings_2 K := (by funext K; rfl); rw [e]; exact nX2_clearMeanings_2) (by have e : bX2_clearMeanings (kv_lim (bX2_clearMeanings)) 2 = fX2_clearMeanings_2 (kv_lim (bX2_clearMeanings)) := rfl; rw [e]; exact hx)
def mX2_clearMeanings : kv_M := kv_in 1 2 (fX2_clearMeanings_0 (kv_lim (bX2_clearMeanings)))
theorem cX2_clearMeanings_ct : kv_CT yX2_clearMeanings wX2_clearMeanings 0 0 mX2_clearMeanings := kv_met (by decide) rfl rfl (by decide) (fun h => by cases h) (sX2_clearMeanings_0 (hX2_clearMeanings))
-- X2_init
def wX2_init : List Cond := Cond.code yX2_init cX2_init 1 none :: kv_tb
abbrev SX2_init (pc : Nat) (F : kv_D) : Prop := kv_S cX2_init 1 RX2 wX2_init none true 1 21 none pc F
def fX2_init_0 : kv_D := o_aload 0 (o_obj (o_aload 0 (o_const 48 (o_newa 1 .char (o_putf 2 0 (.array .char) (o_aload 0 (o_const 0 (o_putf 2 1 .int (o_aload 0 (o_const 0 (o_putf 2 2 .int (o_aload 0 (o_const 26 (o_newa 0 .int (o_putf 2 3 (.array .int) (o_aload 0 (o_const 0 (o_putf 2 4 .int (o_aload 0 (o_const 0 (o_putf 2 5 .boolean (o_aload 0 (o_callV 2 0 mX2_clearMeanings (o_ret))))))))))))))))))))))))
theorem sX2_init_0 : SX2_init 0 (fX2_init_0) := k_aload_n dX2_init_0 rfl (k_obj dX2_init_1 (List.mem_cons_of_mem _ mw_22) (List.mem_cons_of_mem _ mw_15) (List.mem_cons_of_mem _ mw_16) (by decide) (by decide) (k_aload_n dX2_init_4 rfl (k_bipush dX2_init_5 (by decide +kernel) (k_newa dX2_init_7 rfl rfl rfl (List.mem_cons_of_mem _ mw_47) (k_putF (C := RX2) (T := TX2) (N := 6) (ci := 2) (index := 9) (kf := 0) (ty := (.array .char)) dX2_init_9 rfl (fun w h => List.mem_cons_of_mem _ (inX2 w h)) tyX2 tyX2_ok nmX2 (by decide) (List.mem_cons_of_mem _ mw_27) rfl rfl rfl rfl (k_aload_n dX2_init_12 rfl (k_iconst dX2_init_13 (by decide +kernel) (k_putf (C := RX2) (T := TX2) (N := 6) (ci := 2) (index := 15) (kf := 1) (ty := .int) dX2_init_14 rfl (fun w h => List.mem_cons_of_mem _ (inX2 w h)) tyX2 tyX2_ok nmX2 (by decide) (List.mem_cons_of_mem _ mw_28) rfl rfl (k_aload_n dX2_init_17 rfl (k_iconst dX2_init_18 (by decide +kernel) (k_putf (C := RX2) (T := TX2) (N := 6) (ci := 2) (index := 19) (kf := 2) (ty := .int) dX2_init_19 rfl (fun w h => List.mem_cons_of_mem _ (inX2 w h)) tyX2 tyX2_ok nmX2 (by decide) (List.mem_cons_of_mem _ mw_29) rfl rfl (k_aload_n dX2_init_22 rfl (k_bipush dX2_init_23 (by decide +kernel) (k_newa dX2_init_25 rfl rfl rfl (List.mem_cons_of_mem _ mw_48) (k_putF (C := RX2) (T := TX2) (N := 6) (ci := 2) (index := 22) (kf := 3) (ty := (.array .int)) dX2_init_27 rfl (fun w h => List.mem_cons_of_mem _ (inX2 w h)) tyX2 tyX2_ok nmX2 (by decide) (List.mem_cons_of_mem _ mw_30) rfl rfl rfl rfl (k_aload_n dX2_init_30 rfl (k_iconst dX2_init_31 (by decide +kernel) (k_putf (C := RX2) (T := TX2) (N := 6) (ci := 2) (index := 26) (kf := 4) (ty := .int) dX2_init_32 rfl (fun w h => List.mem_cons_of_mem _ (inX2 w h)) tyX2 tyX2_ok nmX2 (by decide) (List.mem_cons_of_mem _ mw_31) rfl rfl (k_aload_n dX2_init_35 rfl (k_iconst dX2_init_36 (by decide +kernel) (k_putf (C := RX2) (T := TX2) (N := 6) (ci := 2) (index := 29) (kf := 5) (ty := .boolean) dX2_init_37 rfl (fun w h => List.mem_cons_of_mem _ (inX2 w h)) tyX2 tyX2_ok nmX2 (by decide) (List.mem_cons_of_mem _ mw_32) rfl rfl (k_aload_n dX2_init_40 rfl (k_callV (q := (RX2, TX2, 6)) dX2_init_41 cX2_clearMeanings_ct rfl (kv_goodV mw_23 mw_24 mw_25 mw_2 mw_26) (by decide +kernel) rfl (by decide) (by decide) (k_ret dX2_init_44 rfl))))))))))))))))))))))))
def mX2_init : kv_M := kv_in 1 1 (fX2_init_0)
theorem cX2_init_ct : kv_CT yX2_init wX2_init 1 21 mX2_init := kv_met (by decide) rfl rfl (by decide) (fun _ => rfl) (sX2_init_0)
-- X1_init
def wX1_init : List Cond := Cond.code yX1_init cX1_init 1 none :: kv_tb
abbrev SX1_init (pc : Nat) (F : kv_D) : Prop := kv_S cX1_init 1 RX1 wX1_init none true 1 20 none pc F
def fX1_init_0 : kv_D := o_aload 0 (o_obj (o_aload 0 (o_const 12 (o_newa 0 .int (o_putf 1 0 (.array .int) (o_aload 0 (o_const 12 (o_newa 0 .int (o_putf 1 1 (.array .int) (o_aload 0 (o_const 12 (o_newa 0 .int (o_putf 1 2 (.array .int) (o_aload 0 (o_const 0 (o_putf 1 3 .int (o_aload 0 (o_const 0 (o_putf 1 4 .int (o_aload 0 (o_const 0 (o_putf 1 5 .int (o_aload 0 (o_const 0 (o_putf 1 6 .boolean (o_aload 0 (o_const 3 (o_newa 0 .int (o_putf 1 7 (.array .int) (o_aload 0 (o_const 3 (o_newa 0 .int (o_putf 1 8 (.array .int) (o_aload 0 (o_const 0 (o_putf 1 9 .int (o_aload 0 (o_const 12 (o_newa 1 .char (o_putf 1 10 (.array .char) (o_aload 0 (o_const 0 (o_putf 1 11 .int (o_aload 0 (o_const 0 (o_putf 1 12 .int (o_aload 0 (o_const 0 (o_putf 1 13 .int (o_ret))))))))))))))))))))))))))))))))))))))))))))))))))
theorem sX1_init_0 : SX1_init 0 (fX1_init_0) := k_aload_n dX1_init_0 rfl (k_obj dX1_init_1 (List.mem_cons_of_mem _ mw_55) (List.mem_cons_of_mem _ mw_15) (List.mem_cons_of_mem _ mw_16) (by decide) (by decide) (k_aload_n dX1_init_4 rfl (k_bipush dX1_init_5 (by decide +kernel) (k_newa dX1_init_7 rfl rfl rfl (List.mem_cons_of_mem _ mw_48) (k_putF (C := RX1) (T := TX1) (N := 14) (ci := 1) (index := 9) (kf := 0) (ty := (.array .int)) dX1_init_9 rfl (fun w h => List.mem_cons_of_mem _ (inX1 w h)) tyX1 tyX1_ok nmX1 (by decide) (List.mem_cons_of_mem _ mw_56) rfl rfl rfl rfl (k_aload_n dX1_init_12 rfl (k_bipush dX1_init_13 (by decide +kernel) (k_newa dX1_init_15 rfl rfl rfl (List.mem_cons_of_mem _ mw_48) (k_putF (C := RX1) (T := TX1) (N := 14) (ci := 1) (index := 15) (kf := 1) (ty := (.array .int)) dX1_init_17 rfl (fun w h => List.mem_cons_of_mem _ (inX1 w h)) tyX1 tyX1_ok nmX1 (by decide) (List.mem_cons_of_mem _ mw_58) rfl rfl rfl rfl (k_aload_n dX1_init_20 rfl (k_bipush dX1_init_21 (by decide +kernel) (k_newa dX1_init_23 rfl rfl rfl (List.mem_cons_of_mem _ mw_48) (k_putF (C := RX1) (T := TX1) (N := 14) (ci := 1) (index := 18) (kf := 2) (ty := (.array .int)) dX1_init_25 rfl (fun w h => List.mem_cons_of_mem _ (inX1 w h)) tyX1 tyX1_ok nmX1 (by decide) (List.mem_cons_of_mem _ mw_60) rfl rfl rfl rfl (k_aload_n dX1_init_28 rfl (k_iconst dX1_init_29 (by decide +kernel) (k_putf (C := RX1) (T := TX1) (N := 14) (ci := 1) (index := 21) (kf := 3) (ty := .int) dX1_init_30 rfl (fun w h => List.mem_cons_of_mem _ (inX1 w h)) tyX1 tyX1_ok nmX1 (by decide) (List.mem_cons_of_mem _ mw_62) rfl rfl (k_aload_n dX1_init_33 rfl (k_iconst dX1_init_34 (by decide +kernel) (k_putf (C := RX1) (T := TX1) (N := 14) (ci := 1) (index := 25) (kf := 4) (ty := .int) dX1_init_35 rfl (fun w h => List.mem_cons_of_mem _ (inX1 w h)) tyX1 tyX1_ok nmX1 (by decide) (List.mem_cons_of_mem _ mw_65) rfl rfl (k_aload_n dX1_init_38 rfl (k_iconst dX1_init_39 (by decide +kernel) (k_putf (C := RX1) (T := TX1) (N := 14) (ci := 1) (index := 28) (kf := 5) (ty := .int) dX1_init_40 rfl (fun w h => List.mem_cons_of_mem _ (inX1 w h)) tyX1 tyX1_ok nmX1 (by decide) (List.mem_cons_of_mem _ mw_68) rfl rfl (k_aload_n dX1_init_43 rfl (k_iconst dX1_init_44 (by decide +kernel) (k_putf (C := RX1) (T := TX1) (N := 14) (ci := 1) (index := 31) (kf := 6) (ty := .boolean) dX1_init_45 rfl (fun w h => List.mem_cons_of_mem _ (inX1 w h)) tyX1 tyX1_ok nmX1 (by decide) (List.mem_cons_of_mem _ mw_72) rfl rfl (k_aload_n dX1_init_48 rfl (k_iconst dX1_init_49 (by decide +kernel) (k_newa dX1_init_50 rfl rfl rfl (List.mem_cons_of_mem _ mw_48) (k_putF (C := RX1) (T := TX1) (N := 14) (ci := 1) (index := 35) (kf := 7) (ty := (.array .int)) dX1_init_52 rfl (fun w h => List.mem_cons_of_mem _ (inX1 w h)) tyX1 tyX1_ok nmX1 (by decide) (List.mem_cons_of_mem _ mw_73) rfl rfl rfl rfl (k_aload_n dX1_init_55 rfl (k_iconst dX1_init_56 (by decide +kernel) (k_newa dX1_init_57 rfl rfl rfl (List.mem_cons_of_mem _ mw_48) (k_putF (C := RX1) (T := TX1) (N := 14) (ci := 1) (index := 38) (kf := 8) (ty := (.array .int)) dX1_init_59 rfl (fun w h => List.mem_cons_of_mem _ (inX1 w h)) tyX1 tyX1_ok nmX1 (by decide) (List.mem_cons_of_mem _ mw_75) rfl rfl rfl rfl (k_aload_n dX1_init_62 rfl (k_iconst dX1_init_63 (by decide +kernel) (k_putf (C := RX1) (T := TX1) (N := 14) (ci := 1) (index := 41) (kf := 9) (ty := .int) dX1_init_64 rfl (fun w h => List.mem_cons_of_mem _ (inX1 w h)) tyX1 tyX1_ok nmX1 (by decide) (List.mem_cons_of_mem _ mw_77) rfl rfl (k_aload_n dX1_init_67 rfl (k_bipush dX1_init_68 (by decide +kernel) (k_newa dX1_init_70 rfl rfl rfl (List.mem_cons_of_mem _ mw_47) (k_putF (C := RX1) (T := TX1) (N := 14) (ci := 1) (index := 44) (kf := 10) (ty := (.array .char)) dX1_init_72 rfl (fun w h => List.mem_cons_of_mem _ (inX1 w h)) tyX1 tyX1_ok nmX1 (by decide) (List.mem_cons_of_mem _ mw_79) rfl rfl rfl rfl (k_aload_n dX1_init_75 rfl (k_iconst dX1_init_76 (by decide +kernel) (k_putf (C := RX1) (T := TX1) (N := 14) (ci := 1) (index := 48) (kf := 11) (ty := .int) dX1_init_77 rfl (fun w h => List.mem_cons_of_mem _ (inX1 w h)) tyX1 tyX1_ok nmX1 (by decide) (List.mem_cons_of_mem _ mw_81) rfl rfl (k_aload_n dX1_init_80 rfl (k_iconst dX1_init_81 (by decide +kernel) (k_putf (C := RX1) (T := TX1) (N := 14) (ci := 1) (index := 51) (kf := 12) (ty := .int) dX1_init_82 rfl (fun w h => List.mem_cons_of_mem _ (inX1 w h)) tyX1 tyX1_ok nmX1 (by decide) (List.mem_cons_of_mem _ mw_84) rfl rfl (k_aload_n dX1_init_85 rfl (k_iconst dX1_init_86 (by decide +kernel) (k_putf (C := RX1) (T := TX1) (N := 14) (ci := 1) (index := 54) (kf := 13) (ty := .int) dX1_init_87 rfl (fun w h => List.mem_cons_of_mem _ (inX1 w h)) tyX1 tyX1_ok nmX1 (by decide) (List.mem_cons_of_mem _ mw_86) rfl rfl (k_ret dX1_init_90 rfl))))))))))))))))))))))))))))))))))))))))))))))))))
def mX1_init : kv_M := kv_in 1 1 (fX1_init_0)
theorem cX1_init_ct : kv_CT yX1_init wX1_init 1 20 mX1_init := kv_met (by decide) rfl rfl (by decide) (fun _ => rfl) (sX1_init_0)
-- X3_init
def wX3_init : List Cond := Cond.code yX3_init cX3_init 1 none :: kv_tb
abbrev SX3_init (pc : Nat) (F : kv_D) : Prop := kv_S cX3_init 1 RX3 wX3_init none true 1 20 none pc F
def fX3_init_0 : kv_D := o_aload 0 (o_obj (o_aload 0 (o_const 60 (o_newa 1 .char (o_putf 3 0 (.array .char) (o_aload 0 (o_const 60 (o_newa 1 .char (o_putf 3 1 (.array .char) (o_aload 0 (o_const 0 (o_putf 3 2 .int (o_aload 0 (o_const 0 (o_putf 3 3 .int (o_ret))))))))))))))))
theorem sX3_init_0 : SX3_init 0 (fX3_init_0) := k_aload_n dX3_init_0 rfl (k_obj dX3_init_1 (List.mem_cons_of_mem _ mw_123) (List.mem_cons_of_mem _ mw_15) (List.mem_cons_of_mem _ mw_16) (by decide) (by decide) (k_aload_n dX3_init_4 rfl (k_bipush dX3_init_5 (by decide +kernel) (k_newa dX3_init_7 rfl rfl rfl (List.mem_cons_of_mem _ mw_47) (k_putf (C := RX3) (T := TX3) (N := 4) (ci := 3) (index := 9) (kf := 0) (ty := (.array .char)) dX3_init_9 rfl (fun w h => List.mem_cons_of_mem _ (inX3 w h)) tyX3 tyX3_ok nmX3 (by decide) (List.mem_cons_of_mem _ mw_124) rfl rfl (k_aload_n dX3_init_12 rfl (k_bipush dX3_init_13 (by decide +kernel) (k_newa dX3_init_15 rfl rfl rfl (List.mem_cons_of_mem _ mw_47) (k_putf (C := RX3) (T := TX3) (N := 4) (ci := 3) (index := 15) (kf := 1) (ty := (.array .char)) dX3_init_17 rfl (fun w h => List.mem_cons_of_mem _ (inX3 w h)) tyX3 tyX3_ok nmX3 (by decide) (List.mem_cons_of_mem _ mw_126) rfl rfl (k_aload_n dX3_init_20 rfl (k_iconst dX3_init_21 (by decide +kernel) (k_putf (C := RX3) (T := TX3) (N := 4) (ci := 3) (index := 18) (kf := 2) (ty := .int) dX3_init_22 rfl (fun w h => List.mem_cons_of_mem _ (inX3 w h)) tyX3 tyX3_ok nmX3 (by decide) (List.mem_cons_of_mem _ mw_127) rfl rfl (k_aload_n dX3_init_25 rfl (k_iconst dX3_init_26 (by decide +kernel) (k_putf (C := RX3) (T := TX3) (N := 4) (ci := 3) (index := 22) (kf := 3) (ty := .int) dX3_init_27 rfl (fun w h => List.mem_cons_of_mem _ (inX3 w h)) tyX3 tyX3_ok nmX3 (by decide) (List.mem_cons_of_mem _ mw_130) rfl rfl (k_ret dX3_init_30 rfl))))))))))))))))
def mX3_init : kv_M := kv_in 1 1 (fX3_init_0)
theorem cX3_init_ct : kv_CT yX3_init wX3_init 1 20 mX3_init := kv_met (by decide) rfl rfl (by decide) (fun _ => rfl) (sX3_init_0)
-- X0_init
def wX0_init : List Cond := Cond.code yX0_init cX0_init 1 none :: kv_tb
abbrev SX0_init (pc : Nat) (F : kv_D) : Prop := kv_S cX0_init 1 RX0 wX0_init none true 1 20 none pc F
def fX0_init_0 : kv_D := o_aload 0 (o_obj (o_aload 0 (o_const 13 (o_newa 0 .int (o_putf 0 0 (.array .int) (o_ret))))))
theorem sX0_init_0 : SX0_init 0 (fX0_init_0) := k_aload_n dX0_init_0 rfl (k_obj dX0_init_1 (List.mem_cons_of_mem _ mw_147) (List.mem_cons_of_mem _ mw_15) (List.mem_cons_of_mem _ mw_16) (by decide) (by decide) (k_aload_n dX0_init_4 rfl (k_bipush dX0_init_5 (by decide +kernel) (k_newa dX0_init_7 rfl rfl rfl (List.mem_cons_of_mem _ mw_48) (k_putF (C := RX0) (T := TX0) (N := 1) (ci := 0) (index := 9) (kf := 0) (ty := (.array .int)) dX0_init_9 rfl (fun w h => List.mem_cons_of_mem _ (inX0 w h)) tyX0 tyX0_ok nmX0 (by decide) (List.mem_cons_of_mem _ mw_148) rfl rfl rfl rfl (k_ret dX0_init_12 rfl))))))
def mX0_init : kv_M := kv_in 1 1 (fX0_init_0)
theorem cX0_init_ct : kv_CT yX0_init wX0_init 1 20 mX0_init := kv_met (by decide) rfl rfl (by decide) (fun _ => rfl) (sX0_init_0)
-- X4_init
def wX4_init : List Cond := Cond.code yX4_init cX4_init 2 none :: kv_tb
abbrev SX4_init (pc : Nat) (F : kv_D) : Prop := kv_S cX4_init 2 RX4 wX4_init none true 2 41 none pc F
def fX4_init_51 (K : Nat → kv_D) : kv_D := o_aload 0 (o_const 0 (o_putf 4 2 .int (o_aload 0 (o_new 3 4 [.null, .null, .int 0, .int 0] (o_dup (o_callI 0 mX3_init (o_putf 4 3 (.object "CursorRewriter$Text") (o_aload 0 (o_new 0 1 [.null] (o_dup (o_callI 0 mX0_init (o_putf 4 4 (.object "CursorRewriter$Match") (o_aload 0 (o_const 0 (o_putf 4 5 .int (o_aload 0 (o_const (-1) (o_putf 4 6 .int (o_aload 0 (o_const 0 (o_putf 4 7 .boolean (o_ret))))))))))))))))))))))
theorem sX4_init_51 {K : Nat → kv_D} (hK : ∀ pc, SX4_init pc (K pc)) : SX4_init 51 (fX4_init_51 K) := k_aload_n dX4_init_51 rfl (k_iconst dX4_init_52 (by decide +kernel) (k_putf (C := RX4) (T := TX4) (N := 8) (ci := 4) (index := 23) (kf := 2) (ty := .int) dX4_init_53 rfl (fun w h => List.mem_cons_of_mem _ (inX4 w h)) tyX4 tyX4_ok nmX4 (by decide) (List.mem_cons_of_mem _ mw_155) rfl rfl (k_aload_n dX4_init_56 rfl (k_new (C := RX3) (T := TX3) (index := 27) (fs := [.null, .null, .int 0, .int 0]) dX4_init_57 rfl (fun w h => List.mem_cons_of_mem _ (inX3 w h)) tyX3 tyX3_ok (List.mem_cons_of_mem _ mw_118) (List.mem_cons_of_mem _ mw_119) (List.mem_cons_of_mem _ mw_4) (by decide +kernel) (fun _ _ => rfl) (k_dup dX4_init_60 (k_callIN dX4_init_61 cX3_init_ct rfl (kv_goodC mw_122) mw_120 (List.mem_cons_of_mem _ mw_4) (List.mem_cons_of_mem _ mw_121) rfl (by decide +kernel) (by decide) (by decide) (k_putF (C := RX4) (T := TX4) (N := 8) (ci := 4) (index := 30) (kf := 3) (ty := (.object "CursorRewriter$Text")) dX4_init_64 rfl (fun w h => List.mem_cons_of_mem _ (inX4 w h)) tyX4 tyX4_ok nmX4 (by decide) (List.mem_cons_of_mem _ mw_156) rfl rfl rfl rfl (k_aload_n dX4_init_67 rfl (k_new (C := RX0) (T := TX0) (index := 34) (fs := [.null]) dX4_init_68 rfl (fun w h => List.mem_cons_of_mem _ (inX0 w h)) tyX0 tyX0_ok (List.mem_cons_of_mem _ mw_142) (List.mem_cons_of_mem _ mw_143) (List.mem_cons_of_mem _ mw_5) (by decide +kernel) (fun _ _ => rfl) (k_dup dX4_init_71 (k_callIN dX4_init_72 cX0_init_ct rfl (kv_goodC mw_146) mw_144 (List.mem_cons_of_mem _ mw_5) (List.mem_cons_of_mem _ mw_145) rfl (by decide +kernel) (by decide) (by decide) (k_putF (C := RX4) (T := TX4) (N := 8) (ci := 4) (index := 37) (kf := 4) (ty := (.object "CursorRewriter$Match")) dX4_init_75 rfl (fun w h => List.mem_cons_of_mem _ (inX4 w h)) tyX4 tyX4_ok nmX4 (by decide) (List.mem_cons_of_mem _ mw_157) rfl rfl rfl rfl (k_aload_n dX4_init_78 rfl (k_iconst dX4_init_79 (by decide +kernel) (k_putf (C := RX4) (T := TX4) (N := 8) (ci := 4) (index := 41) (kf := 5) (ty := .int) dX4_init_80 rfl (fun w h => List.mem_cons_of_mem _ (inX4 w h)) tyX4 tyX4_ok nmX4 (by decide) (List.mem_cons_of_mem _ mw_158) rfl rfl (k_aload_n dX4_init_83 rfl (k_iconst dX4_init_84 (by decide +kernel) (k_putf (C := RX4) (T := TX4) (N := 8) (ci := 4) (index := 44) (kf := 6) (ty := .int) dX4_init_85 rfl (fun w h => List.mem_cons_of_mem _ (inX4 w h)) tyX4 tyX4_ok nmX4 (by decide) (List.mem_cons_of_mem _ mw_159) rfl rfl (k_aload_n dX4_init_88 rfl (k_iconst dX4_init_89 (by decide +kernel) (k_putf (C := RX4) (T := TX4) (N := 8) (ci := 4) (index := 47) (kf := 7) (ty := .boolean) dX4_init_90 rfl (fun w h => List.mem_cons_of_mem _ (inX4 w h)) tyX4 tyX4_ok nmX4 (by decide) (List.mem_cons_of_mem _ mw_160) rfl rfl (k_ret dX4_init_93 rfl))))))))))))))))))))))
theorem nX4_init_51 : kv_cn (fun K => fX4_init_51 K) := cn_aload 0 (cn_const 0 (cn_putf 4 2 .int (cn_aload 0 (cn_new 3 4 [.null, .null, .int 0, .int 0] (cn_dup (cn_callI 0 mX3_init (cn_putf 4 3 (.object "CursorRewriter$Text") (cn_aload 0 (cn_new 0 1 [.null] (cn_dup (cn_callI 0 mX0_init (cn_putf 4 4 (.object "CursorRewriter$Match") (cn_aload 0 (cn_const 0 (cn_putf 4 5 .int (cn_aload 0 (cn_const (-1) (cn_putf 4 6 .int (cn_aload 0 (cn_const 0 (cn_putf 4 7 .boolean (cn_c _))))))))))))))))))))))
def fX4_init_32 (K : Nat → kv_D) : kv_D := o_aload 0 (o_getf 4 1 (o_iload 1 (o_new 1 14 [.null, .null, .null, .int 0, .int 0, .int 0, .int 0, .null, .null, .int 0, .null, .int 0, .int 0, .int 0] (o_dup (o_callI 0 mX1_init (o_aast 2 1 (o_iinc 1 1 ((K 26)))))))))
theorem sX4_init_32 {K : Nat → kv_D} (hK : ∀ pc, SX4_init pc (K pc)) : SX4_init 32 (fX4_init_32 K) := k_aload_n dX4_init_32 rfl (k_getf (C := RX4) (T := TX4) (N := 8) (ci := 4) (index := 18) (kf := 1) dX4_init_33 rfl (fun w h => List.mem_cons_of_mem _ (inX4 w h)) (by decide) (List.mem_cons_of_mem _ mw_154) (k_iload_n dX4_init_36 rfl (k_new (C := RX1) (T := TX1) (index := 16) (fs := [.null, .null, .null, .int 0, .int 0, .int 0, .int 0, .null, .null, .int 0, .null, .int 0, .int 0, .int 0]) dX4_init_37 rfl (fun w h => List.mem_cons_of_mem _ (inX1 w h)) tyX1 tyX1_ok (List.mem_cons_of_mem _ mw_49) (List.mem_cons_of_mem _ mw_51) (List.mem_cons_of_mem _ mw_3) (by decide +kernel) (fun _ _ => rfl) (k_dup dX4_init_40 (k_callIN dX4_init_41 cX1_init_ct rfl (kv_goodC mw_54) mw_52 (List.mem_cons_of_mem _ mw_3) (List.mem_cons_of_mem _ mw_53) rfl (by decide +kernel) (by decide) (by decide) (k_aast (q := (RX1, TX1, 14)) dX4_init_44 rfl rfl (k_iinc dX4_init_45 (by decide +kernel) (by decide) (k_goto dX4_init_48 rfl (hK 26)))))))))
theorem nX4_init_32 : kv_cn (fun K => fX4_init_32 K) := cn_aload 0 (cn_getf 4 1 (cn_iload 1 (cn_new 1 14 [.null, .null, .null, .int 0, .int 0, .int 0, .int 0, .null, .null, .int 0, .null, .int 0, .int 0, .int 0] (cn_dup (cn_callI 0 mX1_init (cn_aast 2 1 (cn_iinc 1 1 ((cn_K 26)))))))))
def fX4_init_26 (K : Nat → kv_D) : kv_D := o_iload 1 (o_const 8 (o_icgt (fX4_init_51 K) (fX4_init_32 K)))
theorem sX4_init_26 {K : Nat → kv_D} (hK : ∀ pc, SX4_init pc (K pc)) : SX4_init 26 (fX4_init_26 K) := k_iload_n dX4_init_26 rfl (k_bipush dX4_init_27 (by decide +kernel) (k_icgt dX4_init_29 rfl (sX4_init_51 hK) (sX4_init_32 hK)))
theorem nX4_init_26 : kv_cn (fun K => fX4_init_26 K) := cn_iload 1 (cn_const 8 (cn_icgt nX4_init_51 nX4_init_32))
def fX4_init_0 (K : Nat → kv_D) : kv_D := o_aload 0 (o_obj (o_aload 0 (o_new 2 6 [.null, .int 0, .int 0, .null, .int 0, .int 0] (o_dup (o_callI 0 mX2_init (o_putf 4 0 (.object "CursorRewriter$Statement") (o_aload 0 (o_const 9 (o_newq 2 (o_putf 4 1 (.array (.object "CursorRewriter$Rule")) (o_const 0 (o_istore 1 ((K 26))))))))))))))
theorem sX4_init_0 {K : Nat → kv_D} (hK : ∀ pc, SX4_init pc (K pc)) : SX4_init 0 (fX4_init_0 K) := k_aload_n dX4_init_0 rfl (k_obj dX4_init_1 (List.mem_cons_of_mem _ mw_14) (List.mem_cons_of_mem _ mw_15) (List.mem_cons_of_mem _ mw_16) (by decide) (by decide) (k_aload_n dX4_init_4 rfl (k_new (C := RX2) (T := TX2) (index := 9) (fs := [.null, .int 0, .int 0, .null, .int 0, .int 0]) dX4_init_5 rfl (fun w h => List.mem_cons_of_mem _ (inX2 w h)) tyX2 tyX2_ok (List.mem_cons_of_mem _ mw_17) (List.mem_cons_of_mem _ mw_18) (List.mem_cons_of_mem _ mw_2) (by decide +kernel) (fun _ _ => rfl) (k_dup dX4_init_8 (k_callI dX4_init_9 cX2_init_ct rfl (kv_goodC mw_21) (List.mem_cons_of_mem _ mw_19) (List.mem_cons_of_mem _ mw_2) (List.mem_cons_of_mem _ mw_20) rfl (by decide +kernel) (by decide) (by decide) (k_putF (C := RX4) (T := TX4) (N := 8) (ci := 4) (index := 12) (kf := 0) (ty := (.object "CursorRewriter$Statement")) dX4_init_12 rfl (fun w h => List.mem_cons_of_mem _ (inX4 w h)) tyX4 tyX4_ok nmX4 (by decide) (List.mem_cons_of_mem _ mw_153) rfl rfl rfl rfl (k_aload_n dX4_init_15 rfl (k_bipush dX4_init_16 (by decide +kernel) (k_newq dX4_init_18 rfl (List.mem_cons_of_mem _ mw_49) mw_50 (k_putF (C := RX4) (T := TX4) (N := 8) (ci := 4) (index := 18) (kf := 1) (ty := (.array (.object "CursorRewriter$Rule"))) dX4_init_21 rfl (fun w h => List.mem_cons_of_mem _ (inX4 w h)) tyX4 tyX4_ok nmX4 (by decide) (List.mem_cons_of_mem _ mw_154) rfl rfl rfl rfl (k_iconst dX4_init_24 (by decide +kernel) (k_istore_n dX4_init_25 rfl (by decide) ((hK 26))))))))))))))
theorem nX4_init_0 : kv_cn (fun K => fX4_init_0 K) := cn_aload 0 (cn_obj (cn_aload 0 (cn_new 2 6 [.null, .int 0, .int 0, .null, .int 0, .int 0] (cn_dup (cn_callI 0 mX2_init (cn_putf 4 0 (.object "CursorRewriter$Statement") (cn_aload 0 (cn_const 9 (cn_newq 2 (cn_putf 4 1 (.array (.object "CursorRewriter$Rule")) (cn_const 0 (cn_istore 1 ((cn_K 26))))))))))))))
def bX4_init (K : Nat → kv_D) (pc : Nat) : kv_D := if pc = 26 then fX4_init_26 K else fun _ _ _ _ _ => False
theorem hX4_init : ∀ pc, SX4_init pc (kv_lim (bX4_init) pc) := kv_lim_S (fun K hK pc => by
  unfold bX4_init
  by_cases q26 : pc = 26
  · rw [if_pos q26, q26]
    exact sX4_init_26 hK
  rw [if_neg q26]
  exact kv_none)
theorem uX4_init_26 {L : List (Option Value)} {st : List Value} {h : kv_H} {v : Option Value} {h' : kv_H} (hx : fX4_init_26 (kv_lim (bX4_init)) L st h v h') : kv_lim (bX4_init) 26 L st h v h' := kv_un (q := 26) (by have e : (fun K => bX4_init K 26) = fun K => fX4_init_26 K := (by funext K; rfl); rw [e]; exact nX4_init_26) (by have e : bX4_init (kv_lim (bX4_init)) 26 = fX4_init_26 (kv_lim (bX4_init)) := rfl; rw [e]; exact hx)
def mX4_init : kv_M := kv_in 1 2 (fX4_init_0 (kv_lim (bX4_init)))
theorem cX4_init_ct : kv_CT yX4_init wX4_init 2 41 mX4_init := kv_met (by decide) rfl rfl (by decide) (fun _ => rfl) (sX4_init_0 (hX4_init))
-- X4_isCapital
def wX4_isCapital : List Cond := Cond.code yX4_isCapital cX4_isCapital 1 (some .boolean) :: kv_tb
abbrev SX4_isCapital (pc : Nat) (F : kv_D) : Prop := kv_S cX4_isCapital 1 RX4 wX4_isCapital (some .boolean) false 0 0 none pc F
def fX4_isCapital_17 : kv_D := o_iret .boolean
theorem sX4_isCapital_17 : SX4_isCapital 17 (fX4_isCapital_17) := k_iret dX4_isCapital_17 rfl
def fX4_isCapital_16 : kv_D := o_const 0 ((fX4_isCapital_17))
theorem sX4_isCapital_16 : SX4_isCapital 16 (fX4_isCapital_16) := k_iconst dX4_isCapital_16 (by decide +kernel) ((sX4_isCapital_17))
def fX4_isCapital_12 : kv_D := o_const 1 ((fX4_isCapital_17))
theorem sX4_isCapital_12 : SX4_isCapital 12 (fX4_isCapital_12) := k_iconst dX4_isCapital_12 (by decide +kernel) (k_goto dX4_isCapital_13 rfl (sX4_isCapital_17))
def fX4_isCapital_6 : kv_D := o_iload 0 (o_const 90 (o_icgt (fX4_isCapital_16) (fX4_isCapital_12)))
theorem sX4_isCapital_6 : SX4_isCapital 6 (fX4_isCapital_6) := k_iload_n dX4_isCapital_6 rfl (k_bipush dX4_isCapital_7 (by decide +kernel) (k_icgt dX4_isCapital_9 rfl (sX4_isCapital_16) (sX4_isCapital_12)))
def fX4_isCapital_0 : kv_D := o_iload 0 (o_const 65 (o_iclt (fX4_isCapital_16) (fX4_isCapital_6)))
theorem sX4_isCapital_0 : SX4_isCapital 0 (fX4_isCapital_0) := k_iload_n dX4_isCapital_0 rfl (k_bipush dX4_isCapital_1 (by decide +kernel) (k_iclt dX4_isCapital_3 rfl (sX4_isCapital_16) (sX4_isCapital_6)))
def mX4_isCapital : kv_M := kv_in 1 1 (fX4_isCapital_0)
theorem cX4_isCapital_ct : kv_CT yX4_isCapital wX4_isCapital 0 0 mX4_isCapital := kv_met (by decide) rfl rfl (by decide) (fun h => by cases h) (sX4_isCapital_0)
-- X2_looksLikeDefinition
def wX2_looksLikeDefinition : List Cond := Cond.code yX2_looksLikeDefinition cX2_looksLikeDefinition 1 (some .boolean) :: kv_tb
abbrev SX2_looksLikeDefinition (pc : Nat) (F : kv_D) : Prop := kv_S cX2_looksLikeDefinition 1 RX2 wX2_looksLikeDefinition (some .boolean) false 1 20 none pc F
def fX2_looksLikeDefinition_36 : kv_D := o_iret .boolean
theorem sX2_looksLikeDefinition_36 : SX2_looksLikeDefinition 36 (fX2_looksLikeDefinition_36) := k_iret dX2_looksLikeDefinition_36 rfl
def fX2_looksLikeDefinition_35 : kv_D := o_const 0 ((fX2_looksLikeDefinition_36))
theorem sX2_looksLikeDefinition_35 : SX2_looksLikeDefinition 35 (fX2_looksLikeDefinition_35) := k_iconst dX2_looksLikeDefinition_35 (by decide +kernel) ((sX2_looksLikeDefinition_36))
def fX2_looksLikeDefinition_31 : kv_D := o_const 1 ((fX2_looksLikeDefinition_36))
theorem sX2_looksLikeDefinition_31 : SX2_looksLikeDefinition 31 (fX2_looksLikeDefinition_31) := k_iconst dX2_looksLikeDefinition_31 (by decide +kernel) (k_goto dX2_looksLikeDefinition_32 rfl (sX2_looksLikeDefinition_36))
def fX2_looksLikeDefinition_20 : kv_D := o_aload 0 (o_getf 2 0 (o_const 1 (o_iald 1 (o_const 61 (o_icne (fX2_looksLikeDefinition_35) (fX2_looksLikeDefinition_31))))))
theorem sX2_looksLikeDefinition_20 : SX2_looksLikeDefinition 20 (fX2_looksLikeDefinition_20) := k_aload_n dX2_looksLikeDefinition_20 rfl (k_getf (C := RX2) (T := TX2) (N := 6) (ci := 2) (index := 9) (kf := 0) dX2_looksLikeDefinition_21 rfl (fun w h => List.mem_cons_of_mem _ (inX2 w h)) (by decide) (List.mem_cons_of_mem _ mw_27) (k_iconst dX2_looksLikeDefinition_24 (by decide +kernel) (k_cald dX2_looksLikeDefinition_25 rfl (k_bipush dX2_looksLikeDefinition_26 (by decide +kernel) (k_icne dX2_looksLikeDefinition_28 rfl (sX2_looksLikeDefinition_35) (sX2_looksLikeDefinition_31))))))
def fX2_looksLikeDefinition_8 : kv_D := o_aload 0 (o_getf 2 0 (o_const 0 (o_iald 1 (o_callS 1 mX4_isCapital (o_ifeq (fX2_looksLikeDefinition_35) (fX2_looksLikeDefinition_20))))))
theorem sX2_looksLikeDefinition_8 : SX2_looksLikeDefinition 8 (fX2_looksLikeDefinition_8) := k_aload_n dX2_looksLikeDefinition_8 rfl (k_getf (C := RX2) (T := TX2) (N := 6) (ci := 2) (index := 9) (kf := 0) dX2_looksLikeDefinition_9 rfl (fun w h => List.mem_cons_of_mem _ (inX2 w h)) (by decide) (List.mem_cons_of_mem _ mw_27) (k_iconst dX2_looksLikeDefinition_12 (by decide +kernel) (k_cald dX2_looksLikeDefinition_13 rfl (k_callSN dX2_looksLikeDefinition_14 cX4_isCapital_ct rfl (kv_goodC mw_188) mw_186 (List.mem_cons_of_mem _ mw_1) (List.mem_cons_of_mem _ mw_187) (by decide +kernel) (by decide) (by decide) (k_ifeq dX2_looksLikeDefinition_17 rfl (sX2_looksLikeDefinition_35) (sX2_looksLikeDefinition_20))))))
def fX2_looksLikeDefinition_0 : kv_D := o_aload 0 (o_getf 2 1 (o_const 2 (o_iclt (fX2_looksLikeDefinition_35) (fX2_looksLikeDefinition_8))))
theorem sX2_looksLikeDefinition_0 : SX2_looksLikeDefinition 0 (fX2_looksLikeDefinition_0) := k_aload_n dX2_looksLikeDefinition_0 rfl (k_getf (C := RX2) (T := TX2) (N := 6) (ci := 2) (index := 15) (kf := 1) dX2_looksLikeDefinition_1 rfl (fun w h => List.mem_cons_of_mem _ (inX2 w h)) (by decide) (List.mem_cons_of_mem _ mw_28) (k_iconst dX2_looksLikeDefinition_4 (by decide +kernel) (k_iclt dX2_looksLikeDefinition_5 rfl (sX2_looksLikeDefinition_35) (sX2_looksLikeDefinition_8))))
def mX2_looksLikeDefinition : kv_M := kv_in 1 1 (fX2_looksLikeDefinition_0)
theorem cX2_looksLikeDefinition_ct : kv_CT yX2_looksLikeDefinition wX2_looksLikeDefinition 1 20 mX2_looksLikeDefinition := kv_met (by decide) rfl rfl (by decide) (fun h => by cases h) (sX2_looksLikeDefinition_0)
-- X2_next
def wX2_next : List Cond := Cond.code yX2_next cX2_next 1 (some .char) :: kv_tb
abbrev SX2_next (pc : Nat) (F : kv_D) : Prop := kv_S cX2_next 1 RX2 wX2_next (some .char) false 0 0 none pc F
def fX2_next_24 : kv_D := o_iret .char
theorem sX2_next_24 : SX2_next 24 (fX2_next_24) := k_iret dX2_next_24 rfl
def fX2_next_23 : kv_D := o_const 0 ((fX2_next_24))
theorem sX2_next_23 : SX2_next 23 (fX2_next_23) := k_iconst dX2_next_23 (by decide +kernel) ((sX2_next_24))
def fX2_next_11 : kv_D := o_aload 0 (o_getf 2 0 (o_aload 0 (o_getf 2 2 (o_iald 1 ((fX2_next_24))))))
theorem sX2_next_11 : SX2_next 11 (fX2_next_11) := k_aload_n dX2_next_11 rfl (k_getf (C := RX2) (T := TX2) (N := 6) (ci := 2) (index := 9) (kf := 0) dX2_next_12 rfl (fun w h => List.mem_cons_of_mem _ (inX2 w h)) (by decide) (List.mem_cons_of_mem _ mw_27) (k_aload_n dX2_next_15 rfl (k_getf (C := RX2) (T := TX2) (N := 6) (ci := 2) (index := 19) (kf := 2) dX2_next_16 rfl (fun w h => List.mem_cons_of_mem _ (inX2 w h)) (by decide) (List.mem_cons_of_mem _ mw_29) (k_cald dX2_next_19 rfl (k_goto dX2_next_20 rfl (sX2_next_24))))))
def fX2_next_0 : kv_D := o_aload 0 (o_getf 2 2 (o_aload 0 (o_getf 2 1 (o_icge (fX2_next_23) (fX2_next_11)))))
theorem sX2_next_0 : SX2_next 0 (fX2_next_0) := k_aload_n dX2_next_0 rfl (k_getf (C := RX2) (T := TX2) (N := 6) (ci := 2) (index := 19) (kf := 2) dX2_next_1 rfl (fun w h => List.mem_cons_of_mem _ (inX2 w h)) (by decide) (List.mem_cons_of_mem _ mw_29) (k_aload_n dX2_next_4 rfl (k_getf (C := RX2) (T := TX2) (N := 6) (ci := 2) (index := 15) (kf := 1) dX2_next_5 rfl (fun w h => List.mem_cons_of_mem _ (inX2 w h)) (by decide) (List.mem_cons_of_mem _ mw_28) (k_icge dX2_next_8 rfl (sX2_next_23) (sX2_next_11)))))
def mX2_next : kv_M := kv_in 1 1 (fX2_next_0)
theorem cX2_next_ct : kv_CT yX2_next wX2_next 0 0 mX2_next := kv_met (by decide) rfl rfl (by decide) (fun h => by cases h) (sX2_next_0)
-- X4_isSmall
def wX4_isSmall : List Cond := Cond.code yX4_isSmall cX4_isSmall 1 (some .boolean) :: kv_tb
abbrev SX4_isSmall (pc : Nat) (F : kv_D) : Prop := kv_S cX4_isSmall 1 RX4 wX4_isSmall (some .boolean) false 0 0 none pc F
def fX4_isSmall_17 : kv_D := o_iret .boolean
theorem sX4_isSmall_17 : SX4_isSmall 17 (fX4_isSmall_17) := k_iret dX4_isSmall_17 rfl
def fX4_isSmall_16 : kv_D := o_const 0 ((fX4_isSmall_17))
theorem sX4_isSmall_16 : SX4_isSmall 16 (fX4_isSmall_16) := k_iconst dX4_isSmall_16 (by decide +kernel) ((sX4_isSmall_17))
def fX4_isSmall_12 : kv_D := o_const 1 ((fX4_isSmall_17))
theorem sX4_isSmall_12 : SX4_isSmall 12 (fX4_isSmall_12) := k_iconst dX4_isSmall_12 (by decide +kernel) (k_goto dX4_isSmall_13 rfl (sX4_isSmall_17))
def fX4_isSmall_6 : kv_D := o_iload 0 (o_const 122 (o_icgt (fX4_isSmall_16) (fX4_isSmall_12)))
theorem sX4_isSmall_6 : SX4_isSmall 6 (fX4_isSmall_6) := k_iload_n dX4_isSmall_6 rfl (k_bipush dX4_isSmall_7 (by decide +kernel) (k_icgt dX4_isSmall_9 rfl (sX4_isSmall_16) (sX4_isSmall_12)))
def fX4_isSmall_0 : kv_D := o_iload 0 (o_const 97 (o_iclt (fX4_isSmall_16) (fX4_isSmall_6)))
theorem sX4_isSmall_0 : SX4_isSmall 0 (fX4_isSmall_0) := k_iload_n dX4_isSmall_0 rfl (k_bipush dX4_isSmall_1 (by decide +kernel) (k_iclt dX4_isSmall_3 rfl (sX4_isSmall_16) (sX4_isSmall_6)))
def mX4_isSmall : kv_M := kv_in 1 1 (fX4_isSmall_0)
theorem cX4_isSmall_ct : kv_CT yX4_isSmall wX4_isSmall 0 0 mX4_isSmall := kv_met (by decide) rfl rfl (by decide) (fun h => by cases h) (sX4_isSmall_0)
-- X2_lettersFromTo
def wX2_lettersFromTo : List Cond := Cond.code yX2_lettersFromTo cX2_lettersFromTo 2 (some .int) :: kv_tb
abbrev SX2_lettersFromTo (pc : Nat) (F : kv_D) : Prop := kv_S cX2_lettersFromTo 2 RX2 wX2_lettersFromTo (some .int) false 0 0 none pc F
def fX2_lettersFromTo_0 : kv_D := o_const 1 (o_iload 1 (o_const 97 (o_isub (o_const 1 (o_iadd (o_ishl (o_const 1 (o_iload 0 (o_const 97 (o_isub (o_ishl (o_isub (o_iret .int)))))))))))))
theorem sX2_lettersFromTo_0 : SX2_lettersFromTo 0 (fX2_lettersFromTo_0) := k_iconst dX2_lettersFromTo_0 (by decide +kernel) (k_iload_n dX2_lettersFromTo_1 rfl (k_bipush dX2_lettersFromTo_2 (by decide +kernel) (k_isub dX2_lettersFromTo_4 (k_iconst dX2_lettersFromTo_5 (by decide +kernel) (k_iadd dX2_lettersFromTo_6 (k_ishl dX2_lettersFromTo_7 (k_iconst dX2_lettersFromTo_8 (by decide +kernel) (k_iload_n dX2_lettersFromTo_9 rfl (k_bipush dX2_lettersFromTo_10 (by decide +kernel) (k_isub dX2_lettersFromTo_12 (k_ishl dX2_lettersFromTo_13 (k_isub dX2_lettersFromTo_14 (k_iret dX2_lettersFromTo_15 rfl)))))))))))))
def mX2_lettersFromTo : kv_M := kv_in 2 2 (fX2_lettersFromTo_0)
theorem cX2_lettersFromTo_ct : kv_CT yX2_lettersFromTo wX2_lettersFromTo 0 0 mX2_lettersFromTo := kv_met (by decide) rfl rfl (by decide) (fun h => by cases h) (sX2_lettersFromTo_0)
-- X2_skip
def wX2_skip : List Cond := Cond.code yX2_skip cX2_skip 2 (some .boolean) :: kv_tb
abbrev SX2_skip (pc : Nat) (F : kv_D) : Prop := kv_S cX2_skip 2 RX2 wX2_skip (some .boolean) false 0 0 none pc F
def fX2_skip_26 : kv_D := o_aload 0 (o_dup (o_getf 2 2 (o_const 1 (o_iadd (o_putf 2 2 .int (o_const 1 (o_iret .boolean)))))))
theorem sX2_skip_26 : SX2_skip 26 (fX2_skip_26) := k_aload_n dX2_skip_26 rfl (k_dup dX2_skip_27 (k_getf (C := RX2) (T := TX2) (N := 6) (ci := 2) (index := 19) (kf := 2) dX2_skip_28 rfl (fun w h => List.mem_cons_of_mem _ (inX2 w h)) (by decide) (List.mem_cons_of_mem _ mw_29) (k_iconst dX2_skip_31 (by decide +kernel) (k_iadd dX2_skip_32 (k_putf (C := RX2) (T := TX2) (N := 6) (ci := 2) (index := 19) (kf := 2) (ty := .int) dX2_skip_33 rfl (fun w h => List.mem_cons_of_mem _ (inX2 w h)) tyX2 tyX2_ok nmX2 (by decide) (List.mem_cons_of_mem _ mw_29) rfl rfl (k_iconst dX2_skip_36 (by decide +kernel) (k_iret dX2_skip_37 rfl)))))))
def fX2_skip_24 : kv_D := o_const 0 (o_iret .boolean)
theorem sX2_skip_24 : SX2_skip 24 (fX2_skip_24) := k_iconst dX2_skip_24 (by decide +kernel) (k_iret dX2_skip_25 rfl)
def fX2_skip_11 : kv_D := o_aload 0 (o_getf 2 0 (o_aload 0 (o_getf 2 2 (o_iald 1 (o_iload 1 (o_iceq (fX2_skip_26) (fX2_skip_24)))))))
theorem sX2_skip_11 : SX2_skip 11 (fX2_skip_11) := k_aload_n dX2_skip_11 rfl (k_getf (C := RX2) (T := TX2) (N := 6) (ci := 2) (index := 9) (kf := 0) dX2_skip_12 rfl (fun w h => List.mem_cons_of_mem _ (inX2 w h)) (by decide) (List.mem_cons_of_mem _ mw_27) (k_aload_n dX2_skip_15 rfl (k_getf (C := RX2) (T := TX2) (N := 6) (ci := 2) (index := 19) (kf := 2) dX2_skip_16 rfl (fun w h => List.mem_cons_of_mem _ (inX2 w h)) (by decide) (List.mem_cons_of_mem _ mw_29) (k_cald dX2_skip_19 rfl (k_iload_n dX2_skip_20 rfl (k_iceq dX2_skip_21 rfl (sX2_skip_26) (sX2_skip_24)))))))
def fX2_skip_0 : kv_D := o_aload 0 (o_getf 2 2 (o_aload 0 (o_getf 2 1 (o_icge (fX2_skip_24) (fX2_skip_11)))))
theorem sX2_skip_0 : SX2_skip 0 (fX2_skip_0) := k_aload_n dX2_skip_0 rfl (k_getf (C := RX2) (T := TX2) (N := 6) (ci := 2) (index := 19) (kf := 2) dX2_skip_1 rfl (fun w h => List.mem_cons_of_mem _ (inX2 w h)) (by decide) (List.mem_cons_of_mem _ mw_29) (k_aload_n dX2_skip_4 rfl (k_getf (C := RX2) (T := TX2) (N := 6) (ci := 2) (index := 15) (kf := 1) dX2_skip_5 rfl (fun w h => List.mem_cons_of_mem _ (inX2 w h)) (by decide) (List.mem_cons_of_mem _ mw_28) (k_icge dX2_skip_8 rfl (sX2_skip_24) (sX2_skip_11)))))
def mX2_skip : kv_M := kv_in 2 2 (fX2_skip_0)
theorem cX2_skip_ct : kv_CT yX2_skip wX2_skip 0 0 mX2_skip := kv_met (by decide) rfl rfl (by decide) (fun h => by cases h) (sX2_skip_0)
end
section
theorem dX2_readBrackets_143 : decode cX2_readBrackets 143 = .ok (.ireturn, 1) := by decide +kernel
theorem dX2_readBrackets_142 : decode cX2_readBrackets 142 = .ok (.iconst 0, 1) := by decide +kernel
theorem dX2_readBrackets_138 : decode cX2_readBrackets 138 = .ok (.iconst 1, 1) := by decide +kernel
theorem dX2_readBrackets_139 : decode cX2_readBrackets 139 = .ok (.goto 4, 3) := by decide +kernel
theorem dX2_readBrackets_129 : decode cX2_readBrackets 129 = .ok (.aload_n 0, 1) := by decide +kernel
theorem dX2_readBrackets_130 : decode cX2_readBrackets 130 = .ok (.bipush 93, 2) := by decide +kernel
theorem dX2_readBrackets_132 : decode cX2_readBrackets 132 = .ok (.invokevirtual 51, 3) := by decide +kernel
theorem dX2_readBrackets_135 : decode cX2_readBrackets 135 = .ok (.ifCond .eq 7, 3) := by decide +kernel
theorem dX2_readBrackets_122 : decode cX2_readBrackets 122 = .ok (.putfield 26, 3) := by decide +kernel
theorem dX2_readBrackets_125 : decode cX2_readBrackets 125 = .ok (.iload_n 2, 1) := by decide +kernel
theorem dX2_readBrackets_126 : decode cX2_readBrackets 126 = .ok (.ifCond .eq 16, 3) := by decide +kernel
theorem dX2_readBrackets_121 : decode cX2_readBrackets 121 = .ok (.iload_n 2, 1) := by decide +kernel
theorem dX2_readBrackets_112 : decode cX2_readBrackets 112 = .ok (.ldc 106, 2) := by decide +kernel
theorem dX2_readBrackets_114 : decode cX2_readBrackets 114 = .ok (.iload_n 2, 1) := by decide +kernel
theorem dX2_readBrackets_115 : decode cX2_readBrackets 115 = .ok (.iconst (-1), 1) := by decide +kernel
theorem dX2_readBrackets_116 : decode cX2_readBrackets 116 = .ok (.ixor, 1) := by decide +kernel
theorem dX2_readBrackets_117 : decode cX2_readBrackets 117 = .ok (.iand, 1) := by decide +kernel
theorem dX2_readBrackets_118 : decode cX2_readBrackets 118 = .ok (.goto 4, 3) := by decide +kernel
theorem dX2_readBrackets_107 : decode cX2_readBrackets 107 = .ok (.aload_n 0, 1) := by decide +kernel
theorem dX2_readBrackets_108 : decode cX2_readBrackets 108 = .ok (.iload_n 1, 1) := by decide +kernel
theorem dX2_readBrackets_109 : decode cX2_readBrackets 109 = .ok (.ifCond .eq 12, 3) := by decide +kernel
theorem dX2_readBrackets_91 : decode cX2_readBrackets 91 = .ok (.iload_n 2, 1) := by decide +kernel
theorem dX2_readBrackets_92 : decode cX2_readBrackets 92 = .ok (.iload 4, 2) := by decide +kernel
theorem dX2_readBrackets_94 : decode cX2_readBrackets 94 = .ok (.iload 5, 2) := by decide +kernel
theorem dX2_readBrackets_96 : decode cX2_readBrackets 96 = .ok (.invokestatic 102, 3) := by decide +kernel
theorem dX2_readBrackets_99 : decode cX2_readBrackets 99 = .ok (.ior, 1) := by decide +kernel
theorem dX2_readBrackets_100 : decode cX2_readBrackets 100 = .ok (.istore_n 2, 1) := by decide +kernel
theorem dX2_readBrackets_101 : decode cX2_readBrackets 101 = .ok (.iinc 3 1, 3) := by decide +kernel
theorem dX2_readBrackets_104 : decode cX2_readBrackets 104 = .ok (.goto (-93), 3) := by decide +kernel
theorem dX2_readBrackets_89 : decode cX2_readBrackets 89 = .ok (.iconst 0, 1) := by decide +kernel
theorem dX2_readBrackets_90 : decode cX2_readBrackets 90 = .ok (.ireturn, 1) := by decide +kernel
theorem dX2_readBrackets_82 : decode cX2_readBrackets 82 = .ok (.iload 5, 2) := by decide +kernel
theorem dX2_readBrackets_84 : decode cX2_readBrackets 84 = .ok (.iload 4, 2) := by decide +kernel
theorem dX2_readBrackets_86 : decode cX2_readBrackets 86 = .ok (.if_icmp .ge 5, 3) := by decide +kernel
theorem dX2_readBrackets_74 : decode cX2_readBrackets 74 = .ok (.iload 5, 2) := by decide +kernel
theorem dX2_readBrackets_76 : decode cX2_readBrackets 76 = .ok (.invokestatic 95, 3) := by decide +kernel
theorem dX2_readBrackets_79 : decode cX2_readBrackets 79 = .ok (.ifCond .eq 10, 3) := by decide +kernel
theorem dX2_readBrackets_58 : decode cX2_readBrackets 58 = .ok (.aload_n 0, 1) := by decide +kernel
theorem dX2_readBrackets_59 : decode cX2_readBrackets 59 = .ok (.invokevirtual 71, 3) := by decide +kernel
theorem dX2_readBrackets_62 : decode cX2_readBrackets 62 = .ok (.istore 5, 2) := by decide +kernel
theorem dX2_readBrackets_64 : decode cX2_readBrackets 64 = .ok (.aload_n 0, 1) := by decide +kernel
theorem dX2_readBrackets_65 : decode cX2_readBrackets 65 = .ok (.dup, 1) := by decide +kernel
theorem dX2_readBrackets_66 : decode cX2_readBrackets 66 = .ok (.getfield 19, 3) := by decide +kernel
theorem dX2_readBrackets_69 : decode cX2_readBrackets 69 = .ok (.iconst 1, 1) := by decide +kernel
theorem dX2_readBrackets_70 : decode cX2_readBrackets 70 = .ok (.iadd, 1) := by decide +kernel
theorem dX2_readBrackets_71 : decode cX2_readBrackets 71 = .ok (.putfield 19, 3) := by decide +kernel
theorem dX2_readBrackets_29 : decode cX2_readBrackets 29 = .ok (.aload_n 0, 1) := by decide +kernel
theorem dX2_readBrackets_30 : decode cX2_readBrackets 30 = .ok (.invokevirtual 71, 3) := by decide +kernel
theorem dX2_readBrackets_33 : decode cX2_readBrackets 33 = .ok (.istore 4, 2) := by decide +kernel
theorem dX2_readBrackets_35 : decode cX2_readBrackets 35 = .ok (.iload 4, 2) := by decide +kernel
theorem dX2_readBrackets_37 : decode cX2_readBrackets 37 = .ok (.istore 5, 2) := by decide +kernel
theorem dX2_readBrackets_39 : decode cX2_readBrackets 39 = .ok (.aload_n 0, 1) := by decide +kernel
theorem dX2_readBrackets_40 : decode cX2_readBrackets 40 = .ok (.dup, 1) := by decide +kernel
theorem dX2_readBrackets_41 : decode cX2_readBrackets 41 = .ok (.getfield 19, 3) := by decide +kernel
theorem dX2_readBrackets_44 : decode cX2_readBrackets 44 = .ok (.iconst 1, 1) := by decide +kernel
theorem dX2_readBrackets_45 : decode cX2_readBrackets 45 = .ok (.iadd, 1) := by decide +kernel
theorem dX2_readBrackets_46 : decode cX2_readBrackets 46 = .ok (.putfield 19, 3) := by decide +kernel
theorem dX2_readBrackets_49 : decode cX2_readBrackets 49 = .ok (.aload_n 0, 1) := by decide +kernel
theorem dX2_readBrackets_50 : decode cX2_readBrackets 50 = .ok (.bipush 45, 2) := by decide +kernel
theorem dX2_readBrackets_52 : decode cX2_readBrackets 52 = .ok (.invokevirtual 51, 3) := by decide +kernel
theorem dX2_readBrackets_55 : decode cX2_readBrackets 55 = .ok (.ifCond .eq 19, 3) := by decide +kernel
theorem dX2_readBrackets_19 : decode cX2_readBrackets 19 = .ok (.aload_n 0, 1) := by decide +kernel
theorem dX2_readBrackets_20 : decode cX2_readBrackets 20 = .ok (.invokevirtual 71, 3) := by decide +kernel
theorem dX2_readBrackets_23 : decode cX2_readBrackets 23 = .ok (.invokestatic 95, 3) := by decide +kernel
theorem dX2_readBrackets_26 : decode cX2_readBrackets 26 = .ok (.ifCond .eq 81, 3) := by decide +kernel
theorem dX2_readBrackets_11 : decode cX2_readBrackets 11 = .ok (.iload_n 3, 1) := by decide +kernel
theorem dX2_readBrackets_12 : decode cX2_readBrackets 12 = .ok (.aload_n 0, 1) := by decide +kernel
theorem dX2_readBrackets_13 : decode cX2_readBrackets 13 = .ok (.getfield 15, 3) := by decide +kernel
theorem dX2_readBrackets_16 : decode cX2_readBrackets 16 = .ok (.if_icmp .ge 91, 3) := by decide +kernel
theorem dX2_readBrackets_0 : decode cX2_readBrackets 0 = .ok (.aload_n 0, 1) := by decide +kernel
theorem dX2_readBrackets_1 : decode cX2_readBrackets 1 = .ok (.bipush 94, 2) := by decide +kernel
theorem dX2_readBrackets_3 : decode cX2_readBrackets 3 = .ok (.invokevirtual 51, 3) := by decide +kernel
theorem dX2_readBrackets_6 : decode cX2_readBrackets 6 = .ok (.istore_n 1, 1) := by decide +kernel
theorem dX2_readBrackets_7 : decode cX2_readBrackets 7 = .ok (.iconst 0, 1) := by decide +kernel
theorem dX2_readBrackets_8 : decode cX2_readBrackets 8 = .ok (.istore_n 2, 1) := by decide +kernel
theorem dX2_readBrackets_9 : decode cX2_readBrackets 9 = .ok (.iconst 0, 1) := by decide +kernel
theorem dX2_readBrackets_10 : decode cX2_readBrackets 10 = .ok (.istore_n 3, 1) := by decide +kernel
theorem dX2_readElement_115 : decode cX2_readElement 115 = .ok (.iconst 1, 1) := by decide +kernel
theorem dX2_readElement_116 : decode cX2_readElement 116 = .ok (.ireturn, 1) := by decide +kernel
theorem dX2_readElement_114 : decode cX2_readElement 114 = .ok (.ireturn, 1) := by decide +kernel
theorem dX2_readElement_113 : decode cX2_readElement 113 = .ok (.iconst 0, 1) := by decide +kernel
theorem dX2_readElement_109 : decode cX2_readElement 109 = .ok (.iconst 1, 1) := by decide +kernel
theorem dX2_readElement_110 : decode cX2_readElement 110 = .ok (.goto 4, 3) := by decide +kernel
theorem dX2_readElement_102 : decode cX2_readElement 102 = .ok (.aload_n 0, 1) := by decide +kernel
theorem dX2_readElement_103 : decode cX2_readElement 103 = .ok (.invokevirtual 107, 3) := by decide +kernel
theorem dX2_readElement_106 : decode cX2_readElement 106 = .ok (.ifCond .eq 7, 3) := by decide +kernel
theorem dX2_readElement_96 : decode cX2_readElement 96 = .ok (.iload_n 1, 1) := by decide +kernel
theorem dX2_readElement_97 : decode cX2_readElement 97 = .ok (.bipush 91, 2) := by decide +kernel
theorem dX2_readElement_99 : decode cX2_readElement 99 = .ok (.if_icmp .ne 14, 3) := by decide +kernel
theorem dX2_readElement_90 : decode cX2_readElement 90 = .ok (.putfield 29, 3) := by decide +kernel
theorem dX2_readElement_93 : decode cX2_readElement 93 = .ok (.goto 22, 3) := by decide +kernel
theorem dX2_readElement_89 : decode cX2_readElement 89 = .ok (.iconst 0, 1) := by decide +kernel
theorem dX2_readElement_85 : decode cX2_readElement 85 = .ok (.iconst 1, 1) := by decide +kernel
theorem dX2_readElement_86 : decode cX2_readElement 86 = .ok (.goto 4, 3) := by decide +kernel
theorem dX2_readElement_77 : decode cX2_readElement 77 = .ok (.aload_n 0, 1) := by decide +kernel
theorem dX2_readElement_78 : decode cX2_readElement 78 = .ok (.getfield 26, 3) := by decide +kernel
theorem dX2_readElement_81 : decode cX2_readElement 81 = .ok (.iconst (-1), 1) := by decide +kernel
theorem dX2_readElement_82 : decode cX2_readElement 82 = .ok (.if_icmp .ne 7, 3) := by decide +kernel
theorem dX2_readElement_56 : decode cX2_readElement 56 = .ok (.aload_n 0, 1) := by decide +kernel
theorem dX2_readElement_57 : decode cX2_readElement 57 = .ok (.aload_n 0, 1) := by decide +kernel
theorem dX2_readElement_58 : decode cX2_readElement 58 = .ok (.getfield 22, 3) := by decide +kernel
theorem dX2_readElement_61 : decode cX2_readElement 61 = .ok (.iload_n 1, 1) := by decide +kernel
theorem dX2_readElement_62 : decode cX2_readElement 62 = .ok (.bipush 65, 2) := by decide +kernel
theorem dX2_readElement_64 : decode cX2_readElement 64 = .ok (.isub, 1) := by decide +kernel
theorem dX2_readElement_65 : decode cX2_readElement 65 = .ok (.iaload, 1) := by decide +kernel
theorem dX2_readElement_66 : decode cX2_readElement 66 = .ok (.putfield 26, 3) := by decide +kernel
theorem dX2_readElement_69 : decode cX2_readElement 69 = .ok (.aload_n 0, 1) := by decide +kernel
theorem dX2_readElement_70 : decode cX2_readElement 70 = .ok (.aload_n 0, 1) := by decide +kernel
theorem dX2_readElement_71 : decode cX2_readElement 71 = .ok (.getfield 29, 3) := by decide +kernel
theorem dX2_readElement_74 : decode cX2_readElement 74 = .ok (.ifCond .ne 11, 3) := by decide +kernel
theorem dX2_readElement_49 : decode cX2_readElement 49 = .ok (.iload_n 1, 1) := by decide +kernel
theorem dX2_readElement_50 : decode cX2_readElement 50 = .ok (.invokestatic 36, 3) := by decide +kernel
theorem dX2_readElement_53 : decode cX2_readElement 53 = .ok (.ifCond .eq 43, 3) := by decide +kernel
theorem dX2_readElement_40 : decode cX2_readElement 40 = .ok (.aload_n 0, 1) := by decide +kernel
theorem dX2_readElement_41 : decode cX2_readElement 41 = .ok (.ldc 106, 2) := by decide +kernel
theorem dX2_readElement_43 : decode cX2_readElement 43 = .ok (.putfield 26, 3) := by decide +kernel
theorem dX2_readElement_46 : decode cX2_readElement 46 = .ok (.goto 69, 3) := by decide +kernel
theorem dX2_readElement_34 : decode cX2_readElement 34 = .ok (.iload_n 1, 1) := by decide +kernel
theorem dX2_readElement_35 : decode cX2_readElement 35 = .ok (.bipush 46, 2) := by decide +kernel
theorem dX2_readElement_37 : decode cX2_readElement 37 = .ok (.if_icmp .ne 12, 3) := by decide +kernel
theorem dX2_readElement_22 : decode cX2_readElement 22 = .ok (.aload_n 0, 1) := by decide +kernel
theorem dX2_readElement_23 : decode cX2_readElement 23 = .ok (.iload_n 1, 1) := by decide +kernel
theorem dX2_readElement_24 : decode cX2_readElement 24 = .ok (.iload_n 1, 1) := by decide +kernel
theorem dX2_readElement_25 : decode cX2_readElement 25 = .ok (.invokestatic 102, 3) := by decide +kernel
theorem dX2_readElement_28 : decode cX2_readElement 28 = .ok (.putfield 26, 3) := by decide +kernel
theorem dX2_readElement_31 : decode cX2_readElement 31 = .ok (.goto 84, 3) := by decide +kernel
theorem dX2_readElement_0 : decode cX2_readElement 0 = .ok (.aload_n 0, 1) := by decide +kernel
theorem dX2_readElement_1 : decode cX2_readElement 1 = .ok (.invokevirtual 71, 3) := by decide +kernel
theorem dX2_readElement_4 : decode cX2_readElement 4 = .ok (.istore_n 1, 1) := by decide +kernel
theorem dX2_readElement_5 : decode cX2_readElement 5 = .ok (.aload_n 0, 1) := by decide +kernel
theorem dX2_readElement_6 : decode cX2_readElement 6 = .ok (.dup, 1) := by decide +kernel
theorem dX2_readElement_7 : decode cX2_readElement 7 = .ok (.getfield 19, 3) := by decide +kernel
theorem dX2_readElement_10 : decode cX2_readElement 10 = .ok (.iconst 1, 1) := by decide +kernel
theorem dX2_readElement_11 : decode cX2_readElement 11 = .ok (.iadd, 1) := by decide +kernel
theorem dX2_readElement_12 : decode cX2_readElement 12 = .ok (.putfield 19, 3) := by decide +kernel
theorem dX2_readElement_15 : decode cX2_readElement 15 = .ok (.iload_n 1, 1) := by decide +kernel
theorem dX2_readElement_16 : decode cX2_readElement 16 = .ok (.invokestatic 95, 3) := by decide +kernel
theorem dX2_readElement_19 : decode cX2_readElement 19 = .ok (.ifCond .eq 15, 3) := by decide +kernel
theorem dX2_readDefinition_33 : decode cX2_readDefinition 33 = .ok (.ireturn, 1) := by decide +kernel
theorem dX2_readDefinition_32 : decode cX2_readDefinition 32 = .ok (.iconst 0, 1) := by decide +kernel
theorem dX2_readDefinition_28 : decode cX2_readDefinition 28 = .ok (.iconst 1, 1) := by decide +kernel
theorem dX2_readDefinition_29 : decode cX2_readDefinition 29 = .ok (.goto 4, 3) := by decide +kernel
theorem dX2_readDefinition_17 : decode cX2_readDefinition 17 = .ok (.aload_n 0, 1) := by decide +kernel
theorem dX2_readDefinition_18 : decode cX2_readDefinition 18 = .ok (.getfield 19, 3) := by decide +kernel
theorem dX2_readDefinition_21 : decode cX2_readDefinition 21 = .ok (.aload_n 0, 1) := by decide +kernel
theorem dX2_readDefinition_22 : decode cX2_readDefinition 22 = .ok (.getfield 15, 3) := by decide +kernel
theorem dX2_readDefinition_25 : decode cX2_readDefinition 25 = .ok (.if_icmp .ne 7, 3) := by decide +kernel
theorem dX2_readDefinition_0 : decode cX2_readDefinition 0 = .ok (.aload_n 0, 1) := by decide +kernel
theorem dX2_readDefinition_1 : decode cX2_readDefinition 1 = .ok (.iconst 2, 1) := by decide +kernel
theorem dX2_readDefinition_2 : decode cX2_readDefinition 2 = .ok (.putfield 19, 3) := by decide +kernel
theorem dX2_readDefinition_5 : decode cX2_readDefinition 5 = .ok (.aload_n 0, 1) := by decide +kernel
theorem dX2_readDefinition_6 : decode cX2_readDefinition 6 = .ok (.iconst 0, 1) := by decide +kernel
theorem dX2_readDefinition_7 : decode cX2_readDefinition 7 = .ok (.putfield 29, 3) := by decide +kernel
theorem dX2_readDefinition_10 : decode cX2_readDefinition 10 = .ok (.aload_n 0, 1) := by decide +kernel
theorem dX2_readDefinition_11 : decode cX2_readDefinition 11 = .ok (.invokevirtual 40, 3) := by decide +kernel
theorem dX2_readDefinition_14 : decode cX2_readDefinition 14 = .ok (.ifCond .eq 18, 3) := by decide +kernel
theorem dX2_define_30 : decode cX2_define 30 = .ok (.return_, 1) := by decide +kernel
theorem dX2_define_12 : decode cX2_define 12 = .ok (.aload_n 0, 1) := by decide +kernel
theorem dX2_define_13 : decode cX2_define 13 = .ok (.getfield 22, 3) := by decide +kernel
theorem dX2_define_16 : decode cX2_define 16 = .ok (.aload_n 0, 1) := by decide +kernel
theorem dX2_define_17 : decode cX2_define 17 = .ok (.getfield 9, 3) := by decide +kernel
theorem dX2_define_20 : decode cX2_define 20 = .ok (.iconst 0, 1) := by decide +kernel
theorem dX2_define_21 : decode cX2_define 21 = .ok (.caload, 1) := by decide +kernel
theorem dX2_define_22 : decode cX2_define 22 = .ok (.bipush 65, 2) := by decide +kernel
theorem dX2_define_24 : decode cX2_define 24 = .ok (.isub, 1) := by decide +kernel
theorem dX2_define_25 : decode cX2_define 25 = .ok (.aload_n 0, 1) := by decide +kernel
theorem dX2_define_26 : decode cX2_define 26 = .ok (.getfield 26, 3) := by decide +kernel
theorem dX2_define_29 : decode cX2_define 29 = .ok (.iastore, 1) := by decide +kernel
theorem dX2_define_0 : decode cX2_define 0 = .ok (.aload_n 0, 1) := by decide +kernel
theorem dX2_define_1 : decode cX2_define 1 = .ok (.getfield 9, 3) := by decide +kernel
theorem dX2_define_4 : decode cX2_define 4 = .ok (.iconst 0, 1) := by decide +kernel
theorem dX2_define_5 : decode cX2_define 5 = .ok (.caload, 1) := by decide +kernel
theorem dX2_define_6 : decode cX2_define 6 = .ok (.invokestatic 36, 3) := by decide +kernel
theorem dX2_define_9 : decode cX2_define 9 = .ok (.ifCond .eq 21, 3) := by decide +kernel
theorem dX4_endDefinition_25 : decode cX4_endDefinition 25 = .ok (.aload_n 0, 1) := by decide +kernel
theorem dX4_endDefinition_26 : decode cX4_endDefinition 26 = .ok (.getfield 12, 3) := by decide +kernel
theorem dX4_endDefinition_29 : decode cX4_endDefinition 29 = .ok (.invokevirtual 106, 3) := by decide +kernel
theorem dX4_endDefinition_32 : decode cX4_endDefinition 32 = .ok (.iconst 1, 1) := by decide +kernel
theorem dX4_endDefinition_33 : decode cX4_endDefinition 33 = .ok (.ireturn, 1) := by decide +kernel
theorem dX4_endDefinition_22 : decode cX4_endDefinition 22 = .ok (.bipush (-2), 2) := by decide +kernel
theorem dX4_endDefinition_24 : decode cX4_endDefinition 24 = .ok (.ireturn, 1) := by decide +kernel
theorem dX4_endDefinition_12 : decode cX4_endDefinition 12 = .ok (.aload_n 0, 1) := by decide +kernel
theorem dX4_endDefinition_13 : decode cX4_endDefinition 13 = .ok (.getfield 12, 3) := by decide +kernel
theorem dX4_endDefinition_16 : decode cX4_endDefinition 16 = .ok (.getfield 103, 3) := by decide +kernel
theorem dX4_endDefinition_19 : decode cX4_endDefinition 19 = .ok (.ifCond .eq 6, 3) := by decide +kernel
theorem dX4_endDefinition_10 : decode cX4_endDefinition 10 = .ok (.iconst (-1), 1) := by decide +kernel
theorem dX4_endDefinition_11 : decode cX4_endDefinition 11 = .ok (.ireturn, 1) := by decide +kernel
theorem dX4_endDefinition_0 : decode cX4_endDefinition 0 = .ok (.aload_n 0, 1) := by decide +kernel
theorem dX4_endDefinition_1 : decode cX4_endDefinition 1 = .ok (.getfield 12, 3) := by decide +kernel
theorem dX4_endDefinition_4 : decode cX4_endDefinition 4 = .ok (.invokevirtual 100, 3) := by decide +kernel
theorem dX4_endDefinition_7 : decode cX4_endDefinition 7 = .ok (.ifCond .ne 5, 3) := by decide +kernel
theorem dX1_clear_0 : decode cX1_clear 0 = .ok (.aload_n 0, 1) := by decide +kernel
theorem dX1_clear_1 : decode cX1_clear 1 = .ok (.iconst 0, 1) := by decide +kernel
theorem dX1_clear_2 : decode cX1_clear 2 = .ok (.putfield 21, 3) := by decide +kernel
theorem dX1_clear_5 : decode cX1_clear 5 = .ok (.aload_n 0, 1) := by decide +kernel
theorem dX1_clear_6 : decode cX1_clear 6 = .ok (.iconst 0, 1) := by decide +kernel
theorem dX1_clear_7 : decode cX1_clear 7 = .ok (.putfield 25, 3) := by decide +kernel
theorem dX1_clear_10 : decode cX1_clear 10 = .ok (.aload_n 0, 1) := by decide +kernel
theorem dX1_clear_11 : decode cX1_clear 11 = .ok (.iconst 0, 1) := by decide +kernel
theorem dX1_clear_12 : decode cX1_clear 12 = .ok (.putfield 28, 3) := by decide +kernel
theorem dX1_clear_15 : decode cX1_clear 15 = .ok (.aload_n 0, 1) := by decide +kernel
theorem dX1_clear_16 : decode cX1_clear 16 = .ok (.iconst 0, 1) := by decide +kernel
theorem dX1_clear_17 : decode cX1_clear 17 = .ok (.putfield 31, 3) := by decide +kernel
theorem dX1_clear_20 : decode cX1_clear 20 = .ok (.aload_n 0, 1) := by decide +kernel
theorem dX1_clear_21 : decode cX1_clear 21 = .ok (.iconst 0, 1) := by decide +kernel
theorem dX1_clear_22 : decode cX1_clear 22 = .ok (.putfield 41, 3) := by decide +kernel
theorem dX1_clear_25 : decode cX1_clear 25 = .ok (.aload_n 0, 1) := by decide +kernel
theorem dX1_clear_26 : decode cX1_clear 26 = .ok (.iconst 0, 1) := by decide +kernel
theorem dX1_clear_27 : decode cX1_clear 27 = .ok (.putfield 48, 3) := by decide +kernel
theorem dX1_clear_30 : decode cX1_clear 30 = .ok (.aload_n 0, 1) := by decide +kernel
theorem dX1_clear_31 : decode cX1_clear 31 = .ok (.iconst 0, 1) := by decide +kernel
theorem dX1_clear_32 : decode cX1_clear 32 = .ok (.putfield 51, 3) := by decide +kernel
theorem dX1_clear_35 : decode cX1_clear 35 = .ok (.aload_n 0, 1) := by decide +kernel
theorem dX1_clear_36 : decode cX1_clear 36 = .ok (.iconst 0, 1) := by decide +kernel
theorem dX1_clear_37 : decode cX1_clear 37 = .ok (.putfield 54, 3) := by decide +kernel
theorem dX1_clear_40 : decode cX1_clear 40 = .ok (.return_, 1) := by decide +kernel
theorem dX2_hasOpeningBrace_29 : decode cX2_hasOpeningBrace 29 = .ok (.iconst 0, 1) := by decide +kernel
theorem dX2_hasOpeningBrace_30 : decode cX2_hasOpeningBrace 30 = .ok (.ireturn, 1) := by decide +kernel
theorem dX2_hasOpeningBrace_23 : decode cX2_hasOpeningBrace 23 = .ok (.iinc 1 1, 3) := by decide +kernel
theorem dX2_hasOpeningBrace_26 : decode cX2_hasOpeningBrace 26 = .ok (.goto (-24), 3) := by decide +kernel
theorem dX2_hasOpeningBrace_21 : decode cX2_hasOpeningBrace 21 = .ok (.iconst 1, 1) := by decide +kernel
theorem dX2_hasOpeningBrace_22 : decode cX2_hasOpeningBrace 22 = .ok (.ireturn, 1) := by decide +kernel
theorem dX2_hasOpeningBrace_10 : decode cX2_hasOpeningBrace 10 = .ok (.aload_n 0, 1) := by decide +kernel
theorem dX2_hasOpeningBrace_11 : decode cX2_hasOpeningBrace 11 = .ok (.getfield 9, 3) := by decide +kernel
theorem dX2_hasOpeningBrace_14 : decode cX2_hasOpeningBrace 14 = .ok (.iload_n 1, 1) := by decide +kernel
theorem dX2_hasOpeningBrace_15 : decode cX2_hasOpeningBrace 15 = .ok (.caload, 1) := by decide +kernel
theorem dX2_hasOpeningBrace_16 : decode cX2_hasOpeningBrace 16 = .ok (.bipush 123, 2) := by decide +kernel
theorem dX2_hasOpeningBrace_18 : decode cX2_hasOpeningBrace 18 = .ok (.if_icmp .ne 5, 3) := by decide +kernel
theorem dX2_hasOpeningBrace_2 : decode cX2_hasOpeningBrace 2 = .ok (.iload_n 1, 1) := by decide +kernel
theorem dX2_hasOpeningBrace_3 : decode cX2_hasOpeningBrace 3 = .ok (.aload_n 0, 1) := by decide +kernel
theorem dX2_hasOpeningBrace_4 : decode cX2_hasOpeningBrace 4 = .ok (.getfield 15, 3) := by decide +kernel
theorem dX2_hasOpeningBrace_7 : decode cX2_hasOpeningBrace 7 = .ok (.if_icmp .ge 22, 3) := by decide +kernel
theorem dX2_hasOpeningBrace_0 : decode cX2_hasOpeningBrace 0 = .ok (.iconst 0, 1) := by decide +kernel
theorem dX2_hasOpeningBrace_1 : decode cX2_hasOpeningBrace 1 = .ok (.istore_n 1, 1) := by decide +kernel
theorem dX2_beginsElement_31 : decode cX2_beginsElement 31 = .ok (.ireturn, 1) := by decide +kernel
theorem dX2_beginsElement_30 : decode cX2_beginsElement 30 = .ok (.iconst 0, 1) := by decide +kernel
theorem dX2_beginsElement_26 : decode cX2_beginsElement 26 = .ok (.iconst 1, 1) := by decide +kernel
theorem dX2_beginsElement_27 : decode cX2_beginsElement 27 = .ok (.goto 4, 3) := by decide +kernel
theorem dX2_beginsElement_20 : decode cX2_beginsElement 20 = .ok (.iload_n 0, 1) := by decide +kernel
theorem dX2_beginsElement_21 : decode cX2_beginsElement 21 = .ok (.bipush 91, 2) := by decide +kernel
theorem dX2_beginsElement_23 : decode cX2_beginsElement 23 = .ok (.if_icmp .ne 7, 3) := by decide +kernel
theorem dX2_beginsElement_14 : decode cX2_beginsElement 14 = .ok (.iload_n 0, 1) := by decide +kernel
theorem dX2_beginsElement_15 : decode cX2_beginsElement 15 = .ok (.bipush 46, 2) := by decide +kernel
theorem dX2_beginsElement_17 : decode cX2_beginsElement 17 = .ok (.if_icmp .eq 9, 3) := by decide +kernel
theorem dX2_beginsElement_7 : decode cX2_beginsElement 7 = .ok (.iload_n 0, 1) := by decide +kernel
theorem dX2_beginsElement_8 : decode cX2_beginsElement 8 = .ok (.invokestatic 36, 3) := by decide +kernel
theorem dX2_beginsElement_11 : decode cX2_beginsElement 11 = .ok (.ifCond .ne 15, 3) := by decide +kernel
theorem dX2_beginsElement_0 : decode cX2_beginsElement 0 = .ok (.iload_n 0, 1) := by decide +kernel
theorem dX2_beginsElement_1 : decode cX2_beginsElement 1 = .ok (.invokestatic 95, 3) := by decide +kernel
theorem dX2_beginsElement_4 : decode cX2_beginsElement 4 = .ok (.ifCond .ne 22, 3) := by decide +kernel
theorem dX2_readQuantifier_35 : decode cX2_readQuantifier 35 = .ok (.iconst 0, 1) := by decide +kernel
theorem dX2_readQuantifier_36 : decode cX2_readQuantifier 36 = .ok (.ireturn, 1) := by decide +kernel
theorem dX2_readQuantifier_23 : decode cX2_readQuantifier 23 = .ok (.aload_n 0, 1) := by decide +kernel
theorem dX2_readQuantifier_24 : decode cX2_readQuantifier 24 = .ok (.dup, 1) := by decide +kernel
theorem dX2_readQuantifier_25 : decode cX2_readQuantifier 25 = .ok (.getfield 19, 3) := by decide +kernel
theorem dX2_readQuantifier_28 : decode cX2_readQuantifier 28 = .ok (.iconst 1, 1) := by decide +kernel
theorem dX2_readQuantifier_29 : decode cX2_readQuantifier 29 = .ok (.iadd, 1) := by decide +kernel
theorem dX2_readQuantifier_30 : decode cX2_readQuantifier 30 = .ok (.putfield 19, 3) := by decide +kernel
theorem dX2_readQuantifier_33 : decode cX2_readQuantifier 33 = .ok (.iload_n 1, 1) := by decide +kernel
theorem dX2_readQuantifier_34 : decode cX2_readQuantifier 34 = .ok (.ireturn, 1) := by decide +kernel
theorem dX2_readQuantifier_17 : decode cX2_readQuantifier 17 = .ok (.iload_n 1, 1) := by decide +kernel
theorem dX2_readQuantifier_18 : decode cX2_readQuantifier 18 = .ok (.bipush 63, 2) := by decide +kernel
theorem dX2_readQuantifier_20 : decode cX2_readQuantifier 20 = .ok (.if_icmp .ne 15, 3) := by decide +kernel
theorem dX2_readQuantifier_11 : decode cX2_readQuantifier 11 = .ok (.iload_n 1, 1) := by decide +kernel
theorem dX2_readQuantifier_12 : decode cX2_readQuantifier 12 = .ok (.bipush 43, 2) := by decide +kernel
theorem dX2_readQuantifier_14 : decode cX2_readQuantifier 14 = .ok (.if_icmp .eq 9, 3) := by decide +kernel
theorem dX2_readQuantifier_0 : decode cX2_readQuantifier 0 = .ok (.aload_n 0, 1) := by decide +kernel
theorem dX2_readQuantifier_1 : decode cX2_readQuantifier 1 = .ok (.invokevirtual 71, 3) := by decide +kernel
theorem dX2_readQuantifier_4 : decode cX2_readQuantifier 4 = .ok (.istore_n 1, 1) := by decide +kernel
theorem dX2_readQuantifier_5 : decode cX2_readQuantifier 5 = .ok (.iload_n 1, 1) := by decide +kernel
theorem dX2_readQuantifier_6 : decode cX2_readQuantifier 6 = .ok (.bipush 42, 2) := by decide +kernel
theorem dX2_readQuantifier_8 : decode cX2_readQuantifier 8 = .ok (.if_icmp .eq 15, 3) := by decide +kernel
-- X2_readBrackets
def wX2_readBrackets : List Cond := Cond.code yX2_readBrackets cX2_readBrackets 6 (some .boolean) :: kv_tb
abbrev SX2_readBrackets (pc : Nat) (F : kv_D) : Prop := kv_S cX2_readBrackets 6 RX2 wX2_readBrackets (some .boolean) false 1 21 none pc F
def fX2_readBrackets_143 (K : Nat → kv_D) : kv_D := o_iret .boolean
theorem sX2_readBrackets_143 {K : Nat → kv_D} (hK : ∀ pc, SX2_readBrackets pc (K pc)) : SX2_readBrackets 143 (fX2_readBrackets_143 K) := k_iret dX2_readBrackets_143 rfl
theorem nX2_readBrackets_143 : kv_cn (fun K => fX2_readBrackets_143 K) := cn_c _
def fX2_readBrackets_142 (K : Nat → kv_D) : kv_D := o_const 0 ((fX2_readBrackets_143 K))
theorem sX2_readBrackets_142 {K : Nat → kv_D} (hK : ∀ pc, SX2_readBrackets pc (K pc)) : SX2_readBrackets 142 (fX2_readBrackets_142 K) := k_iconst dX2_readBrackets_142 (by decide +kernel) ((sX2_readBrackets_143 hK))
theorem nX2_readBrackets_142 : kv_cn (fun K => fX2_readBrackets_142 K) := cn_const 0 (nX2_readBrackets_143)
def fX2_readBrackets_138 (K : Nat → kv_D) : kv_D := o_const 1 ((fX2_readBrackets_143 K))
theorem sX2_readBrackets_138 {K : Nat → kv_D} (hK : ∀ pc, SX2_readBrackets pc (K pc)) : SX2_readBrackets 138 (fX2_readBrackets_138 K) := k_iconst dX2_readBrackets_138 (by decide +kernel) (k_goto dX2_readBrackets_139 rfl (sX2_readBrackets_143 hK))
theorem nX2_readBrackets_138 : kv_cn (fun K => fX2_readBrackets_138 K) := cn_const 1 (nX2_readBrackets_143)
def fX2_readBrackets_129 (K : Nat → kv_D) : kv_D := o_aload 0 (o_const 93 (o_callV 2 1 mX2_skip (o_ifeq (fX2_readBrackets_142 K) (fX2_readBrackets_138 K))))
theorem sX2_readBrackets_129 {K : Nat → kv_D} (hK : ∀ pc, SX2_readBrackets pc (K pc)) : SX2_readBrackets 129 (fX2_readBrackets_129 K) := k_aload_n dX2_readBrackets_129 rfl (k_bipush dX2_readBrackets_130 (by decide +kernel) (k_callV (q := (RX2, TX2, 6)) dX2_readBrackets_132 cX2_skip_ct rfl (kv_goodV mw_216 mw_218 sel_X2_skip mw_2 mw_219) (by decide +kernel) rfl (by decide) (by decide) (k_ifeq dX2_readBrackets_135 rfl (sX2_readBrackets_142 hK) (sX2_readBrackets_138 hK))))
theorem nX2_readBrackets_129 : kv_cn (fun K => fX2_readBrackets_129 K) := cn_aload 0 (cn_const 93 (cn_callV 2 1 mX2_skip (cn_ifeq nX2_readBrackets_142 nX2_readBrackets_138)))
def fX2_readBrackets_122 (K : Nat → kv_D) : kv_D := o_putf 2 4 .int (o_iload 2 (o_ifeq (fX2_readBrackets_142 K) (fX2_readBrackets_129 K)))
theorem sX2_readBrackets_122 {K : Nat → kv_D} (hK : ∀ pc, SX2_readBrackets pc (K pc)) : SX2_readBrackets 122 (fX2_readBrackets_122 K) := k_putf (C := RX2) (T := TX2) (N := 6) (ci := 2) (index := 26) (kf := 4) (ty := .int) dX2_readBrackets_122 rfl (fun w h => List.mem_cons_of_mem _ (inX2 w h)) tyX2 tyX2_ok nmX2 (by decide) (List.mem_cons_of_mem _ mw_31) rfl rfl (k_iload_n dX2_readBrackets_125 rfl (k_ifeq dX2_readBrackets_126 rfl (sX2_readBrackets_142 hK) (sX2_readBrackets_129 hK)))
theorem nX2_readBrackets_122 : kv_cn (fun K => fX2_readBrackets_122 K) := cn_putf 2 4 .int (cn_iload 2 (cn_ifeq nX2_readBrackets_142 nX2_readBrackets_129))
def fX2_readBrackets_121 (K : Nat → kv_D) : kv_D := o_iload 2 ((fX2_readBrackets_122 K))
theorem sX2_readBrackets_121 {K : Nat → kv_D} (hK : ∀ pc, SX2_readBrackets pc (K pc)) : SX2_readBrackets 121 (fX2_readBrackets_121 K) := k_iload_n dX2_readBrackets_121 rfl ((sX2_readBrackets_122 hK))
theorem nX2_readBrackets_121 : kv_cn (fun K => fX2_readBrackets_121 K) := cn_iload 2 (nX2_readBrackets_122)
def fX2_readBrackets_112 (K : Nat → kv_D) : kv_D := o_const 67108863 (o_iload 2 (o_const (-1) (o_ixor (o_iand ((fX2_readBrackets_122 K))))))
theorem sX2_readBrackets_112 {K : Nat → kv_D} (hK : ∀ pc, SX2_readBrackets pc (K pc)) : SX2_readBrackets 112 (fX2_readBrackets_112 K) := k_ldc dX2_readBrackets_112 (List.mem_cons_of_mem _ mw_211) (k_iload_n dX2_readBrackets_114 rfl (k_iconst dX2_readBrackets_115 (by decide +kernel) (k_ixor dX2_readBrackets_116 (k_iand dX2_readBrackets_117 (k_goto dX2_readBrackets_118 rfl (sX2_readBrackets_122 hK))))))
theorem nX2_readBrackets_112 : kv_cn (fun K => fX2_readBrackets_112 K) := cn_const 67108863 (cn_iload 2 (cn_const (-1) (cn_ixor (cn_iand (nX2_readBrackets_122)))))
def fX2_readBrackets_107 (K : Nat → kv_D) : kv_D := o_aload 0 (o_iload 1 (o_ifeq (fX2_readBrackets_121 K) (fX2_readBrackets_112 K)))
theorem sX2_readBrackets_107 {K : Nat → kv_D} (hK : ∀ pc, SX2_readBrackets pc (K pc)) : SX2_readBrackets 107 (fX2_readBrackets_107 K) := k_aload_n dX2_readBrackets_107 rfl (k_iload_n dX2_readBrackets_108 rfl (k_ifeq dX2_readBrackets_109 rfl (sX2_readBrackets_121 hK) (sX2_readBrackets_112 hK)))
theorem nX2_readBrackets_107 : kv_cn (fun K => fX2_readBrackets_107 K) := cn_aload 0 (cn_iload 1 (cn_ifeq nX2_readBrackets_121 nX2_readBrackets_112))
def fX2_readBrackets_91 (K : Nat → kv_D) : kv_D := o_iload 2 (o_iload 4 (o_iload 5 (o_callS 2 mX2_lettersFromTo (o_ior (o_istore 2 (o_iinc 3 1 ((K 11))))))))
theorem sX2_readBrackets_91 {K : Nat → kv_D} (hK : ∀ pc, SX2_readBrackets pc (K pc)) : SX2_readBrackets 91 (fX2_readBrackets_91 K) := k_iload_n dX2_readBrackets_91 rfl (k_iload dX2_readBrackets_92 (k_iload dX2_readBrackets_94 (k_callS dX2_readBrackets_96 cX2_lettersFromTo_ct rfl (kv_goodS mw_208 mw_209 mw_2 mw_210) (by decide +kernel) (by decide) (by decide) (k_ior dX2_readBrackets_99 (k_istore_n dX2_readBrackets_100 rfl (by decide) (k_iinc dX2_readBrackets_101 (by decide +kernel) (by decide) (k_goto dX2_readBrackets_104 rfl (hK 11))))))))
theorem nX2_readBrackets_91 : kv_cn (fun K => fX2_readBrackets_91 K) := cn_iload 2 (cn_iload 4 (cn_iload 5 (cn_callS 2 mX2_lettersFromTo (cn_ior (cn_istore 2 (cn_iinc 3 1 ((cn_K 11))))))))
def fX2_readBrackets_89 (K : Nat → kv_D) : kv_D := o_const 0 (o_iret .boolean)
theorem sX2_readBrackets_89 {K : Nat → kv_D} (hK : ∀ pc, SX2_readBrackets pc (K pc)) : SX2_readBrackets 89 (fX2_readBrackets_89 K) := k_iconst dX2_readBrackets_89 (by decide +kernel) (k_iret dX2_readBrackets_90 rfl)
theorem nX2_readBrackets_89 : kv_cn (fun K => fX2_readBrackets_89 K) := cn_const 0 (cn_c _)
def fX2_readBrackets_82 (K : Nat → kv_D) : kv_D := o_iload 5 (o_iload 4 (o_icge (fX2_readBrackets_91 K) (fX2_readBrackets_89 K)))
theorem sX2_readBrackets_82 {K : Nat → kv_D} (hK : ∀ pc, SX2_readBrackets pc (K pc)) : SX2_readBrackets 82 (fX2_readBrackets_82 K) := k_iload dX2_readBrackets_82 (k_iload dX2_readBrackets_84 (k_icge dX2_readBrackets_86 rfl (sX2_readBrackets_91 hK) (sX2_readBrackets_89 hK)))
theorem nX2_readBrackets_82 : kv_cn (fun K => fX2_readBrackets_82 K) := cn_iload 5 (cn_iload 4 (cn_icge nX2_readBrackets_91 nX2_readBrackets_89))
def fX2_readBrackets_74 (K : Nat → kv_D) : kv_D := o_iload 5 (o_callS 1 mX4_isSmall (o_ifeq (fX2_readBrackets_89 K) (fX2_readBrackets_82 K)))
theorem sX2_readBrackets_74 {K : Nat → kv_D} (hK : ∀ pc, SX2_readBrackets pc (K pc)) : SX2_readBrackets 74 (fX2_readBrackets_74 K) := k_iload dX2_readBrackets_74 (k_callSN dX2_readBrackets_76 cX4_isSmall_ct rfl (kv_goodC mw_207) mw_205 (List.mem_cons_of_mem _ mw_1) (List.mem_cons_of_mem _ mw_206) (by decide +kernel) (by decide) (by decide) (k_ifeq dX2_readBrackets_79 rfl (sX2_readBrackets_89 hK) (sX2_readBrackets_82 hK)))
theorem nX2_readBrackets_74 : kv_cn (fun K => fX2_readBrackets_74 K) := cn_iload 5 (cn_callS 1 mX4_isSmall (cn_ifeq nX2_readBrackets_89 nX2_readBrackets_82))
def fX2_readBrackets_58 (K : Nat → kv_D) : kv_D := o_aload 0 (o_callV 2 0 mX2_next (o_istore 5 (o_aload 0 (o_dup (o_getf 2 2 (o_const 1 (o_iadd (o_putf 2 2 .int ((fX2_readBrackets_74 K))))))))))
theorem sX2_readBrackets_58 {K : Nat → kv_D} (hK : ∀ pc, SX2_readBrackets pc (K pc)) : SX2_readBrackets 58 (fX2_readBrackets_58 K) := k_aload_n dX2_readBrackets_58 rfl (k_callV (q := (RX2, TX2, 6)) dX2_readBrackets_59 cX2_next_ct rfl (kv_goodV mw_201 mw_203 sel_X2_next mw_2 mw_204) (by decide +kernel) rfl (by decide) (by decide) (k_istore dX2_readBrackets_62 (by decide) (k_aload_n dX2_readBrackets_64 rfl (k_dup dX2_readBrackets_65 (k_getf (C := RX2) (T := TX2) (N := 6) (ci := 2) (index := 19) (kf := 2) dX2_readBrackets_66 rfl (fun w h => List.mem_cons_of_mem _ (inX2 w h)) (by decide) (List.mem_cons_of_mem _ mw_29) (k_iconst dX2_readBrackets_69 (by decide +kernel) (k_iadd dX2_readBrackets_70 (k_putf (C := RX2) (T := TX2) (N := 6) (ci := 2) (index := 19) (kf := 2) (ty := .int) dX2_readBrackets_71 rfl (fun w h => List.mem_cons_of_mem _ (inX2 w h)) tyX2 tyX2_ok nmX2 (by decide) (List.mem_cons_of_mem _ mw_29) rfl rfl ((sX2_readBrackets_74 hK))))))))))
theorem nX2_readBrackets_58 : kv_cn (fun K => fX2_readBrackets_58 K) := cn_aload 0 (cn_callV 2 0 mX2_next (cn_istore 5 (cn_aload 0 (cn_dup (cn_getf 2 2 (cn_const 1 (cn_iadd (cn_putf 2 2 .int (nX2_readBrackets_74)))))))))
def fX2_readBrackets_29 (K : Nat → kv_D) : kv_D := o_aload 0 (o_callV 2 0 mX2_next (o_istore 4 (o_iload 4 (o_istore 5 (o_aload 0 (o_dup (o_getf 2 2 (o_const 1 (o_iadd (o_putf 2 2 .int (o_aload 0 (o_const 45 (o_callV 2 1 mX2_skip (o_ifeq (fX2_readBrackets_74 K) (fX2_readBrackets_58 K)))))))))))))))
theorem sX2_readBrackets_29 {K : Nat → kv_D} (hK : ∀ pc, SX2_readBrackets pc (K pc)) : SX2_readBrackets 29 (fX2_readBrackets_29 K) := k_aload_n dX2_readBrackets_29 rfl (k_callV (q := (RX2, TX2, 6)) dX2_readBrackets_30 cX2_next_ct rfl (kv_goodV mw_201 mw_203 sel_X2_next mw_2 mw_204) (by decide +kernel) rfl (by decide) (by decide) (k_istore dX2_readBrackets_33 (by decide) (k_iload dX2_readBrackets_35 (k_istore dX2_readBrackets_37 (by decide) (k_aload_n dX2_readBrackets_39 rfl (k_dup dX2_readBrackets_40 (k_getf (C := RX2) (T := TX2) (N := 6) (ci := 2) (index := 19) (kf := 2) dX2_readBrackets_41 rfl (fun w h => List.mem_cons_of_mem _ (inX2 w h)) (by decide) (List.mem_cons_of_mem _ mw_29) (k_iconst dX2_readBrackets_44 (by decide +kernel) (k_iadd dX2_readBrackets_45 (k_putf (C := RX2) (T := TX2) (N := 6) (ci := 2) (index := 19) (kf := 2) (ty := .int) dX2_readBrackets_46 rfl (fun w h => List.mem_cons_of_mem _ (inX2 w h)) tyX2 tyX2_ok nmX2 (by decide) (List.mem_cons_of_mem _ mw_29) rfl rfl (k_aload_n dX2_readBrackets_49 rfl (k_bipush dX2_readBrackets_50 (by decide +kernel) (k_callV (q := (RX2, TX2, 6)) dX2_readBrackets_52 cX2_skip_ct rfl (kv_goodV mw_216 mw_218 sel_X2_skip mw_2 mw_219) (by decide +kernel) rfl (by decide) (by decide) (k_ifeq dX2_readBrackets_55 rfl (sX2_readBrackets_74 hK) (sX2_readBrackets_58 hK)))))))))))))))
theorem nX2_readBrackets_29 : kv_cn (fun K => fX2_readBrackets_29 K) := cn_aload 0 (cn_callV 2 0 mX2_next (cn_istore 4 (cn_iload 4 (cn_istore 5 (cn_aload 0 (cn_dup (cn_getf 2 2 (cn_const 1 (cn_iadd (cn_putf 2 2 .int (cn_aload 0 (cn_const 45 (cn_callV 2 1 mX2_skip (cn_ifeq nX2_readBrackets_74 nX2_readBrackets_58))))))))))))))
def fX2_readBrackets_19 (K : Nat → kv_D) : kv_D := o_aload 0 (o_callV 2 0 mX2_next (o_callS 1 mX4_isSmall (o_ifeq (fX2_readBrackets_107 K) (fX2_readBrackets_29 K))))
theorem sX2_readBrackets_19 {K : Nat → kv_D} (hK : ∀ pc, SX2_readBrackets pc (K pc)) : SX2_readBrackets 19 (fX2_readBrackets_19 K) := k_aload_n dX2_readBrackets_19 rfl (k_callV (q := (RX2, TX2, 6)) dX2_readBrackets_20 cX2_next_ct rfl (kv_goodV mw_201 mw_203 sel_X2_next mw_2 mw_204) (by decide +kernel) rfl (by decide) (by decide) (k_callSN dX2_readBrackets_23 cX4_isSmall_ct rfl (kv_goodC mw_207) mw_205 (List.mem_cons_of_mem _ mw_1) (List.mem_cons_of_mem _ mw_206) (by decide +kernel) (by decide) (by decide) (k_ifeq dX2_readBrackets_26 rfl (sX2_readBrackets_107 hK) (sX2_readBrackets_29 hK))))
theorem nX2_readBrackets_19 : kv_cn (fun K => fX2_readBrackets_19 K) := cn_aload 0 (cn_callV 2 0 mX2_next (cn_callS 1 mX4_isSmall (cn_ifeq nX2_readBrackets_107 nX2_readBrackets_29)))
def fX2_readBrackets_11 (K : Nat → kv_D) : kv_D := o_iload 3 (o_aload 0 (o_getf 2 1 (o_icge (fX2_readBrackets_107 K) (fX2_readBrackets_19 K))))
theorem sX2_readBrackets_11 {K : Nat → kv_D} (hK : ∀ pc, SX2_readBrackets pc (K pc)) : SX2_readBrackets 11 (fX2_readBrackets_11 K) := k_iload_n dX2_readBrackets_11 rfl (k_aload_n dX2_readBrackets_12 rfl (k_getf (C := RX2) (T := TX2) (N := 6) (ci := 2) (index := 15) (kf := 1) dX2_readBrackets_13 rfl (fun w h => List.mem_cons_of_mem _ (inX2 w h)) (by decide) (List.mem_cons_of_mem _ mw_28) (k_icge dX2_readBrackets_16 rfl (sX2_readBrackets_107 hK) (sX2_readBrackets_19 hK))))
theorem nX2_readBrackets_11 : kv_cn (fun K => fX2_readBrackets_11 K) := cn_iload 3 (cn_aload 0 (cn_getf 2 1 (cn_icge nX2_readBrackets_107 nX2_readBrackets_19)))
def fX2_readBrackets_0 (K : Nat → kv_D) : kv_D := o_aload 0 (o_const 94 (o_callV 2 1 mX2_skip (o_istore 1 (o_const 0 (o_istore 2 (o_const 0 (o_istore 3 ((K 11)))))))))
theorem sX2_readBrackets_0 {K : Nat → kv_D} (hK : ∀ pc, SX2_readBrackets pc (K pc)) : SX2_readBrackets 0 (fX2_readBrackets_0 K) := k_aload_n dX2_readBrackets_0 rfl (k_bipush dX2_readBrackets_1 (by decide +kernel) (k_callV (q := (RX2, TX2, 6)) dX2_readBrackets_3 cX2_skip_ct rfl (kv_goodV mw_216 mw_218 sel_X2_skip mw_2 mw_219) (by decide +kernel) rfl (by decide) (by decide) (k_istore_n dX2_readBrackets_6 rfl (by decide) (k_iconst dX2_readBrackets_7 (by decide +kernel) (k_istore_n dX2_readBrackets_8 rfl (by decide) (k_iconst dX2_readBrackets_9 (by decide +kernel) (k_istore_n dX2_readBrackets_10 rfl (by decide) ((hK 11)))))))))
theorem nX2_readBrackets_0 : kv_cn (fun K => fX2_readBrackets_0 K) := cn_aload 0 (cn_const 94 (cn_callV 2 1 mX2_skip (cn_istore 1 (cn_const 0 (cn_istore 2 (cn_const 0 (cn_istore 3 ((cn_K 11)))))))))
def bX2_readBrackets (K : Nat → kv_D) (pc : Nat) : kv_D := if pc = 11 then fX2_readBrackets_11 K else fun _ _ _ _ _ => False
theorem hX2_readBrackets : ∀ pc, SX2_readBrackets pc (kv_lim (bX2_readBrackets) pc) := kv_lim_S (fun K hK pc => by
  unfold bX2_readBrackets
  by_cases q11 : pc = 11
  · rw [if_pos q11, q11]
    exact sX2_readBrackets_11 hK
  rw [if_neg q11]
  exact kv_none)
theorem uX2_readBrackets_11 {L : List (Option Value)} {st : List Value} {h : kv_H} {v : Option Value} {h' : kv_H} (hx : fX2_readBrackets_11 (kv_lim (bX2_readBrackets)) L st h v h') : kv_lim (bX2_readBrackets) 11 L st h v h' := kv_un (q := 11) (by have e : (fun K => bX2_readBrackets K 11) = fun K => fX2_readBrackets_11 K := (by funext K; rfl); rw [e]; exact nX2_readBrackets_11) (by have e : bX2_readBrackets (kv_lim (bX2_readBrackets)) 11 = fX2_readBrackets_11 (kv_lim (bX2_readBrackets)) := rfl; rw [e]; exact hx)
def mX2_readBrackets : kv_M := kv_in 1 6 (fX2_readBrackets_0 (kv_lim (bX2_readBrackets)))
theorem cX2_readBrackets_ct : kv_CT yX2_readBrackets wX2_readBrackets 1 21 mX2_readBrackets := kv_met (by decide) rfl rfl (by decide) (fun h => by cases h) (sX2_readBrackets_0 (hX2_readBrackets))
-- X2_readElement
def wX2_readElement : List Cond := Cond.code yX2_readElement cX2_readElement 2 (some .boolean) :: kv_tb
abbrev SX2_readElement (pc : Nat) (F : kv_D) : Prop := kv_S cX2_readElement 2 RX2 wX2_readElement (some .boolean) false 2 46 none pc F
def fX2_readElement_115 : kv_D := o_const 1 (o_iret .boolean)
theorem sX2_readElement_115 : SX2_readElement 115 (fX2_readElement_115) := k_iconst dX2_readElement_115 (by decide +kernel) (k_iret dX2_readElement_116 rfl)
def fX2_readElement_114 : kv_D := o_iret .boolean
theorem sX2_readElement_114 : SX2_readElement 114 (fX2_readElement_114) := k_iret dX2_readElement_114 rfl
def fX2_readElement_113 : kv_D := o_const 0 ((fX2_readElement_114))
theorem sX2_readElement_113 : SX2_readElement 113 (fX2_readElement_113) := k_iconst dX2_readElement_113 (by decide +kernel) ((sX2_readElement_114))
def fX2_readElement_109 : kv_D := o_const 1 ((fX2_readElement_114))
theorem sX2_readElement_109 : SX2_readElement 109 (fX2_readElement_109) := k_iconst dX2_readElement_109 (by decide +kernel) (k_goto dX2_readElement_110 rfl (sX2_readElement_114))
def fX2_readElement_102 : kv_D := o_aload 0 (o_callV 2 0 mX2_readBrackets (o_ifeq (fX2_readElement_113) (fX2_readElement_109)))
theorem sX2_readElement_102 : SX2_readElement 102 (fX2_readElement_102) := k_aload_n dX2_readElement_102 rfl (k_callV (q := (RX2, TX2, 6)) dX2_readElement_103 cX2_readBrackets_ct rfl (kv_goodV mw_212 mw_214 sel_X2_readBrackets mw_2 mw_215) (by decide +kernel) rfl (by decide) (by decide) (k_ifeq dX2_readElement_106 rfl (sX2_readElement_113) (sX2_readElement_109)))
def fX2_readElement_96 : kv_D := o_iload 1 (o_const 91 (o_icne (fX2_readElement_113) (fX2_readElement_102)))
theorem sX2_readElement_96 : SX2_readElement 96 (fX2_readElement_96) := k_iload_n dX2_readElement_96 rfl (k_bipush dX2_readElement_97 (by decide +kernel) (k_icne dX2_readElement_99 rfl (sX2_readElement_113) (sX2_readElement_102)))
def fX2_readElement_90 : kv_D := o_putf 2 5 .boolean ((fX2_readElement_115))
theorem sX2_readElement_90 : SX2_readElement 90 (fX2_readElement_90) := k_putf (C := RX2) (T := TX2) (N := 6) (ci := 2) (index := 29) (kf := 5) (ty := .boolean) dX2_readElement_90 rfl (fun w h => List.mem_cons_of_mem _ (inX2 w h)) tyX2 tyX2_ok nmX2 (by decide) (List.mem_cons_of_mem _ mw_32) rfl rfl (k_goto dX2_readElement_93 rfl (sX2_readElement_115))
def fX2_readElement_89 : kv_D := o_const 0 ((fX2_readElement_90))
theorem sX2_readElement_89 : SX2_readElement 89 (fX2_readElement_89) := k_iconst dX2_readElement_89 (by decide +kernel) ((sX2_readElement_90))
def fX2_readElement_85 : kv_D := o_const 1 ((fX2_readElement_90))
theorem sX2_readElement_85 : SX2_readElement 85 (fX2_readElement_85) := k_iconst dX2_readElement_85 (by decide +kernel) (k_goto dX2_readElement_86 rfl (sX2_readElement_90))
def fX2_readElement_77 : kv_D := o_aload 0 (o_getf 2 4 (o_const (-1) (o_icne (fX2_readElement_89) (fX2_readElement_85))))
theorem sX2_readElement_77 : SX2_readElement 77 (fX2_readElement_77) := k_aload_n dX2_readElement_77 rfl (k_getf (C := RX2) (T := TX2) (N := 6) (ci := 2) (index := 26) (kf := 4) dX2_readElement_78 rfl (fun w h => List.mem_cons_of_mem _ (inX2 w h)) (by decide) (List.mem_cons_of_mem _ mw_31) (k_iconst dX2_readElement_81 (by decide +kernel) (k_icne dX2_readElement_82 rfl (sX2_readElement_89) (sX2_readElement_85))))
def fX2_readElement_56 : kv_D := o_aload 0 (o_aload 0 (o_getf 2 3 (o_iload 1 (o_const 65 (o_isub (o_iald 0 (o_putf 2 4 .int (o_aload 0 (o_aload 0 (o_getf 2 5 (o_ifne (fX2_readElement_85) (fX2_readElement_77))))))))))))
theorem sX2_readElement_56 : SX2_readElement 56 (fX2_readElement_56) := k_aload_n dX2_readElement_56 rfl (k_aload_n dX2_readElement_57 rfl (k_getf (C := RX2) (T := TX2) (N := 6) (ci := 2) (index := 22) (kf := 3) dX2_readElement_58 rfl (fun w h => List.mem_cons_of_mem _ (inX2 w h)) (by decide) (List.mem_cons_of_mem _ mw_30) (k_iload_n dX2_readElement_61 rfl (k_bipush dX2_readElement_62 (by decide +kernel) (k_isub dX2_readElement_64 (k_iald dX2_readElement_65 rfl (k_putf (C := RX2) (T := TX2) (N := 6) (ci := 2) (index := 26) (kf := 4) (ty := .int) dX2_readElement_66 rfl (fun w h => List.mem_cons_of_mem _ (inX2 w h)) tyX2 tyX2_ok nmX2 (by decide) (List.mem_cons_of_mem _ mw_31) rfl rfl (k_aload_n dX2_readElement_69 rfl (k_aload_n dX2_readElement_70 rfl (k_getf (C := RX2) (T := TX2) (N := 6) (ci := 2) (index := 29) (kf := 5) dX2_readElement_71 rfl (fun w h => List.mem_cons_of_mem _ (inX2 w h)) (by decide) (List.mem_cons_of_mem _ mw_32) (k_ifne dX2_readElement_74 rfl (sX2_readElement_85) (sX2_readElement_77))))))))))))
def fX2_readElement_49 : kv_D := o_iload 1 (o_callS 1 mX4_isCapital (o_ifeq (fX2_readElement_96) (fX2_readElement_56)))
theorem sX2_readElement_49 : SX2_readElement 49 (fX2_readElement_49) := k_iload_n dX2_readElement_49 rfl (k_callSN dX2_readElement_50 cX4_isCapital_ct rfl (kv_goodC mw_188) mw_186 (List.mem_cons_of_mem _ mw_1) (List.mem_cons_of_mem _ mw_187) (by decide +kernel) (by decide) (by decide) (k_ifeq dX2_readElement_53 rfl (sX2_readElement_96) (sX2_readElement_56)))
def fX2_readElement_40 : kv_D := o_aload 0 (o_const 67108863 (o_putf 2 4 .int ((fX2_readElement_115))))
theorem sX2_readElement_40 : SX2_readElement 40 (fX2_readElement_40) := k_aload_n dX2_readElement_40 rfl (k_ldc dX2_readElement_41 (List.mem_cons_of_mem _ mw_211) (k_putf (C := RX2) (T := TX2) (N := 6) (ci := 2) (index := 26) (kf := 4) (ty := .int) dX2_readElement_43 rfl (fun w h => List.mem_cons_of_mem _ (inX2 w h)) tyX2 tyX2_ok nmX2 (by decide) (List.mem_cons_of_mem _ mw_31) rfl rfl (k_goto dX2_readElement_46 rfl (sX2_readElement_115))))
def fX2_readElement_34 : kv_D := o_iload 1 (o_const 46 (o_icne (fX2_readElement_49) (fX2_readElement_40)))
theorem sX2_readElement_34 : SX2_readElement 34 (fX2_readElement_34) := k_iload_n dX2_readElement_34 rfl (k_bipush dX2_readElement_35 (by decide +kernel) (k_icne dX2_readElement_37 rfl (sX2_readElement_49) (sX2_readElement_40)))
def fX2_readElement_22 : kv_D := o_aload 0 (o_iload 1 (o_iload 1 (o_callS 2 mX2_lettersFromTo (o_putf 2 4 .int ((fX2_readElement_115))))))
theorem sX2_readElement_22 : SX2_readElement 22 (fX2_readElement_22) := k_aload_n dX2_readElement_22 rfl (k_iload_n dX2_readElement_23 rfl (k_iload_n dX2_readElement_24 rfl (k_callS dX2_readElement_25 cX2_lettersFromTo_ct rfl (kv_goodS mw_208 mw_209 mw_2 mw_210) (by decide +kernel) (by decide) (by decide) (k_putf (C := RX2) (T := TX2) (N := 6) (ci := 2) (index := 26) (kf := 4) (ty := .int) dX2_readElement_28 rfl (fun w h => List.mem_cons_of_mem _ (inX2 w h)) tyX2 tyX2_ok nmX2 (by decide) (List.mem_cons_of_mem _ mw_31) rfl rfl (k_goto dX2_readElement_31 rfl (sX2_readElement_115))))))
def fX2_readElement_0 : kv_D := o_aload 0 (o_callV 2 0 mX2_next (o_istore 1 (o_aload 0 (o_dup (o_getf 2 2 (o_const 1 (o_iadd (o_putf 2 2 .int (o_iload 1 (o_callS 1 mX4_isSmall (o_ifeq (fX2_readElement_34) (fX2_readElement_22))))))))))))
theorem sX2_readElement_0 : SX2_readElement 0 (fX2_readElement_0) := k_aload_n dX2_readElement_0 rfl (k_callV (q := (RX2, TX2, 6)) dX2_readElement_1 cX2_next_ct rfl (kv_goodV mw_201 mw_203 sel_X2_next mw_2 mw_204) (by decide +kernel) rfl (by decide) (by decide) (k_istore_n dX2_readElement_4 rfl (by decide) (k_aload_n dX2_readElement_5 rfl (k_dup dX2_readElement_6 (k_getf (C := RX2) (T := TX2) (N := 6) (ci := 2) (index := 19) (kf := 2) dX2_readElement_7 rfl (fun w h => List.mem_cons_of_mem _ (inX2 w h)) (by decide) (List.mem_cons_of_mem _ mw_29) (k_iconst dX2_readElement_10 (by decide +kernel) (k_iadd dX2_readElement_11 (k_putf (C := RX2) (T := TX2) (N := 6) (ci := 2) (index := 19) (kf := 2) (ty := .int) dX2_readElement_12 rfl (fun w h => List.mem_cons_of_mem _ (inX2 w h)) tyX2 tyX2_ok nmX2 (by decide) (List.mem_cons_of_mem _ mw_29) rfl rfl (k_iload_n dX2_readElement_15 rfl (k_callSN dX2_readElement_16 cX4_isSmall_ct rfl (kv_goodC mw_207) mw_205 (List.mem_cons_of_mem _ mw_1) (List.mem_cons_of_mem _ mw_206) (by decide +kernel) (by decide) (by decide) (k_ifeq dX2_readElement_19 rfl (sX2_readElement_34) (sX2_readElement_22))))))))))))
def mX2_readElement : kv_M := kv_in 1 2 (fX2_readElement_0)
theorem cX2_readElement_ct : kv_CT yX2_readElement wX2_readElement 2 46 mX2_readElement := kv_met (by decide) rfl rfl (by decide) (fun h => by cases h) (sX2_readElement_0)
-- X2_readDefinition
def wX2_readDefinition : List Cond := Cond.code yX2_readDefinition cX2_readDefinition 1 (some .boolean) :: kv_tb
abbrev SX2_readDefinition (pc : Nat) (F : kv_D) : Prop := kv_S cX2_readDefinition 1 RX2 wX2_readDefinition (some .boolean) false 3 67 none pc F
def fX2_readDefinition_33 : kv_D := o_iret .boolean
theorem sX2_readDefinition_33 : SX2_readDefinition 33 (fX2_readDefinition_33) := k_iret dX2_readDefinition_33 rfl
def fX2_readDefinition_32 : kv_D := o_const 0 ((fX2_readDefinition_33))
theorem sX2_readDefinition_32 : SX2_readDefinition 32 (fX2_readDefinition_32) := k_iconst dX2_readDefinition_32 (by decide +kernel) ((sX2_readDefinition_33))
def fX2_readDefinition_28 : kv_D := o_const 1 ((fX2_readDefinition_33))
theorem sX2_readDefinition_28 : SX2_readDefinition 28 (fX2_readDefinition_28) := k_iconst dX2_readDefinition_28 (by decide +kernel) (k_goto dX2_readDefinition_29 rfl (sX2_readDefinition_33))
def fX2_readDefinition_17 : kv_D := o_aload 0 (o_getf 2 2 (o_aload 0 (o_getf 2 1 (o_icne (fX2_readDefinition_32) (fX2_readDefinition_28)))))
theorem sX2_readDefinition_17 : SX2_readDefinition 17 (fX2_readDefinition_17) := k_aload_n dX2_readDefinition_17 rfl (k_getf (C := RX2) (T := TX2) (N := 6) (ci := 2) (index := 19) (kf := 2) dX2_readDefinition_18 rfl (fun w h => List.mem_cons_of_mem _ (inX2 w h)) (by decide) (List.mem_cons_of_mem _ mw_29) (k_aload_n dX2_readDefinition_21 rfl (k_getf (C := RX2) (T := TX2) (N := 6) (ci := 2) (index := 15) (kf := 1) dX2_readDefinition_22 rfl (fun w h => List.mem_cons_of_mem _ (inX2 w h)) (by decide) (List.mem_cons_of_mem _ mw_28) (k_icne dX2_readDefinition_25 rfl (sX2_readDefinition_32) (sX2_readDefinition_28)))))
def fX2_readDefinition_0 : kv_D := o_aload 0 (o_const 2 (o_putf 2 2 .int (o_aload 0 (o_const 0 (o_putf 2 5 .boolean (o_aload 0 (o_callV 2 0 mX2_readElement (o_ifeq (fX2_readDefinition_32) (fX2_readDefinition_17)))))))))
theorem sX2_readDefinition_0 : SX2_readDefinition 0 (fX2_readDefinition_0) := k_aload_n dX2_readDefinition_0 rfl (k_iconst dX2_readDefinition_1 (by decide +kernel) (k_putf (C := RX2) (T := TX2) (N := 6) (ci := 2) (index := 19) (kf := 2) (ty := .int) dX2_readDefinition_2 rfl (fun w h => List.mem_cons_of_mem _ (inX2 w h)) tyX2 tyX2_ok nmX2 (by decide) (List.mem_cons_of_mem _ mw_29) rfl rfl (k_aload_n dX2_readDefinition_5 rfl (k_iconst dX2_readDefinition_6 (by decide +kernel) (k_putf (C := RX2) (T := TX2) (N := 6) (ci := 2) (index := 29) (kf := 5) (ty := .boolean) dX2_readDefinition_7 rfl (fun w h => List.mem_cons_of_mem _ (inX2 w h)) tyX2 tyX2_ok nmX2 (by decide) (List.mem_cons_of_mem _ mw_32) rfl rfl (k_aload_n dX2_readDefinition_10 rfl (k_callV (q := (RX2, TX2, 6)) dX2_readDefinition_11 cX2_readElement_ct rfl (kv_goodV mw_197 mw_199 sel_X2_readElement mw_2 mw_200) (by decide +kernel) rfl (by decide) (by decide) (k_ifeq dX2_readDefinition_14 rfl (sX2_readDefinition_32) (sX2_readDefinition_17)))))))))
def mX2_readDefinition : kv_M := kv_in 1 1 (fX2_readDefinition_0)
theorem cX2_readDefinition_ct : kv_CT yX2_readDefinition wX2_readDefinition 3 67 mX2_readDefinition := kv_met (by decide) rfl rfl (by decide) (fun h => by cases h) (sX2_readDefinition_0)
-- X2_define
def wX2_define : List Cond := Cond.code yX2_define cX2_define 1 none :: kv_tb
abbrev SX2_define (pc : Nat) (F : kv_D) : Prop := kv_S cX2_define 1 RX2 wX2_define none false 1 20 none pc F
def fX2_define_30 : kv_D := o_ret
theorem sX2_define_30 : SX2_define 30 (fX2_define_30) := k_ret dX2_define_30 rfl
def fX2_define_12 : kv_D := o_aload 0 (o_getf 2 3 (o_aload 0 (o_getf 2 0 (o_const 0 (o_iald 1 (o_const 65 (o_isub (o_aload 0 (o_getf 2 4 (o_iast 0 (fun x => x) ((fX2_define_30))))))))))))
theorem sX2_define_12 : SX2_define 12 (fX2_define_12) := k_aload_n dX2_define_12 rfl (k_getf (C := RX2) (T := TX2) (N := 6) (ci := 2) (index := 22) (kf := 3) dX2_define_13 rfl (fun w h => List.mem_cons_of_mem _ (inX2 w h)) (by decide) (List.mem_cons_of_mem _ mw_30) (k_aload_n dX2_define_16 rfl (k_getf (C := RX2) (T := TX2) (N := 6) (ci := 2) (index := 9) (kf := 0) dX2_define_17 rfl (fun w h => List.mem_cons_of_mem _ (inX2 w h)) (by decide) (List.mem_cons_of_mem _ mw_27) (k_iconst dX2_define_20 (by decide +kernel) (k_cald dX2_define_21 rfl (k_bipush dX2_define_22 (by decide +kernel) (k_isub dX2_define_24 (k_aload_n dX2_define_25 rfl (k_getf (C := RX2) (T := TX2) (N := 6) (ci := 2) (index := 26) (kf := 4) dX2_define_26 rfl (fun w h => List.mem_cons_of_mem _ (inX2 w h)) (by decide) (List.mem_cons_of_mem _ mw_31) (k_iast dX2_define_29 rfl ((sX2_define_30))))))))))))
def fX2_define_0 : kv_D := o_aload 0 (o_getf 2 0 (o_const 0 (o_iald 1 (o_callS 1 mX4_isCapital (o_ifeq (fX2_define_30) (fX2_define_12))))))
theorem sX2_define_0 : SX2_define 0 (fX2_define_0) := k_aload_n dX2_define_0 rfl (k_getf (C := RX2) (T := TX2) (N := 6) (ci := 2) (index := 9) (kf := 0) dX2_define_1 rfl (fun w h => List.mem_cons_of_mem _ (inX2 w h)) (by decide) (List.mem_cons_of_mem _ mw_27) (k_iconst dX2_define_4 (by decide +kernel) (k_cald dX2_define_5 rfl (k_callSN dX2_define_6 cX4_isCapital_ct rfl (kv_goodC mw_188) mw_186 (List.mem_cons_of_mem _ mw_1) (List.mem_cons_of_mem _ mw_187) (by decide +kernel) (by decide) (by decide) (k_ifeq dX2_define_9 rfl (sX2_define_30) (sX2_define_12))))))
def mX2_define : kv_M := kv_in 1 1 (fX2_define_0)
theorem cX2_define_ct : kv_CT yX2_define wX2_define 1 20 mX2_define := kv_met (by decide) rfl rfl (by decide) (fun h => by cases h) (sX2_define_0)
-- X4_endDefinition
def wX4_endDefinition : List Cond := Cond.code yX4_endDefinition cX4_endDefinition 1 (some .int) :: kv_tb
abbrev SX4_endDefinition (pc : Nat) (F : kv_D) : Prop := kv_S cX4_endDefinition 1 RX4 wX4_endDefinition (some .int) false 4 87 none pc F
def fX4_endDefinition_25 : kv_D := o_aload 0 (o_getf 4 0 (o_callV 2 0 mX2_define (o_const 1 (o_iret .int))))
theorem sX4_endDefinition_25 : SX4_endDefinition 25 (fX4_endDefinition_25) := k_aload_n dX4_endDefinition_25 rfl (k_getf (C := RX4) (T := TX4) (N := 8) (ci := 4) (index := 12) (kf := 0) dX4_endDefinition_26 rfl (fun w h => List.mem_cons_of_mem _ (inX4 w h)) (by decide) (List.mem_cons_of_mem _ mw_153) (k_callV (q := (RX2, TX2, 6)) dX4_endDefinition_29 cX2_define_ct rfl (kv_goodV mw_220 mw_221 mw_222 mw_2 mw_223) (by decide +kernel) rfl (by decide) (by decide) (k_iconst dX4_endDefinition_32 (by decide +kernel) (k_iret dX4_endDefinition_33 rfl))))
def fX4_endDefinition_22 : kv_D := o_const (-2) (o_iret .int)
theorem sX4_endDefinition_22 : SX4_endDefinition 22 (fX4_endDefinition_22) := k_bipush dX4_endDefinition_22 (by decide +kernel) (k_iret dX4_endDefinition_24 rfl)
def fX4_endDefinition_12 : kv_D := o_aload 0 (o_getf 4 0 (o_getf 2 5 (o_ifeq (fX4_endDefinition_25) (fX4_endDefinition_22))))
theorem sX4_endDefinition_12 : SX4_endDefinition 12 (fX4_endDefinition_12) := k_aload_n dX4_endDefinition_12 rfl (k_getf (C := RX4) (T := TX4) (N := 8) (ci := 4) (index := 12) (kf := 0) dX4_endDefinition_13 rfl (fun w h => List.mem_cons_of_mem _ (inX4 w h)) (by decide) (List.mem_cons_of_mem _ mw_153) (k_getN (C := RX2) (T := TX2) (N := 6) (ci := 2) (index := 103) (kf := 5) dX4_endDefinition_16 rfl (fun w h => List.mem_cons_of_mem _ (inX2 w h)) (by decide) mw_33 (k_ifeq dX4_endDefinition_19 rfl (sX4_endDefinition_25) (sX4_endDefinition_22))))
def fX4_endDefinition_10 : kv_D := o_const (-1) (o_iret .int)
theorem sX4_endDefinition_10 : SX4_endDefinition 10 (fX4_endDefinition_10) := k_iconst dX4_endDefinition_10 (by decide +kernel) (k_iret dX4_endDefinition_11 rfl)
def fX4_endDefinition_0 : kv_D := o_aload 0 (o_getf 4 0 (o_callV 2 0 mX2_readDefinition (o_ifne (fX4_endDefinition_12) (fX4_endDefinition_10))))
theorem sX4_endDefinition_0 : SX4_endDefinition 0 (fX4_endDefinition_0) := k_aload_n dX4_endDefinition_0 rfl (k_getf (C := RX4) (T := TX4) (N := 8) (ci := 4) (index := 12) (kf := 0) dX4_endDefinition_1 rfl (fun w h => List.mem_cons_of_mem _ (inX4 w h)) (by decide) (List.mem_cons_of_mem _ mw_153) (k_callV (q := (RX2, TX2, 6)) dX4_endDefinition_4 cX2_readDefinition_ct rfl (kv_goodV mw_193 mw_194 mw_195 mw_2 mw_196) (by decide +kernel) rfl (by decide) (by decide) (k_ifne dX4_endDefinition_7 rfl (sX4_endDefinition_12) (sX4_endDefinition_10))))
def mX4_endDefinition : kv_M := kv_in 1 1 (fX4_endDefinition_0)
theorem cX4_endDefinition_ct : kv_CT yX4_endDefinition wX4_endDefinition 4 87 mX4_endDefinition := kv_met (by decide) rfl rfl (by decide) (fun h => by cases h) (sX4_endDefinition_0)
-- X1_clear
def wX1_clear : List Cond := Cond.code yX1_clear cX1_clear 1 none :: kv_tb
abbrev SX1_clear (pc : Nat) (F : kv_D) : Prop := kv_S cX1_clear 1 RX1 wX1_clear none false 0 0 none pc F
def fX1_clear_0 : kv_D := o_aload 0 (o_const 0 (o_putf 1 3 .int (o_aload 0 (o_const 0 (o_putf 1 4 .int (o_aload 0 (o_const 0 (o_putf 1 5 .int (o_aload 0 (o_const 0 (o_putf 1 6 .boolean (o_aload 0 (o_const 0 (o_putf 1 9 .int (o_aload 0 (o_const 0 (o_putf 1 11 .int (o_aload 0 (o_const 0 (o_putf 1 12 .int (o_aload 0 (o_const 0 (o_putf 1 13 .int (o_ret))))))))))))))))))))))))
theorem sX1_clear_0 : SX1_clear 0 (fX1_clear_0) := k_aload_n dX1_clear_0 rfl (k_iconst dX1_clear_1 (by decide +kernel) (k_putf (C := RX1) (T := TX1) (N := 14) (ci := 1) (index := 21) (kf := 3) (ty := .int) dX1_clear_2 rfl (fun w h => List.mem_cons_of_mem _ (inX1 w h)) tyX1 tyX1_ok nmX1 (by decide) (List.mem_cons_of_mem _ mw_62) rfl rfl (k_aload_n dX1_clear_5 rfl (k_iconst dX1_clear_6 (by decide +kernel) (k_putf (C := RX1) (T := TX1) (N := 14) (ci := 1) (index := 25) (kf := 4) (ty := .int) dX1_clear_7 rfl (fun w h => List.mem_cons_of_mem _ (inX1 w h)) tyX1 tyX1_ok nmX1 (by decide) (List.mem_cons_of_mem _ mw_65) rfl rfl (k_aload_n dX1_clear_10 rfl (k_iconst dX1_clear_11 (by decide +kernel) (k_putf (C := RX1) (T := TX1) (N := 14) (ci := 1) (index := 28) (kf := 5) (ty := .int) dX1_clear_12 rfl (fun w h => List.mem_cons_of_mem _ (inX1 w h)) tyX1 tyX1_ok nmX1 (by decide) (List.mem_cons_of_mem _ mw_68) rfl rfl (k_aload_n dX1_clear_15 rfl (k_iconst dX1_clear_16 (by decide +kernel) (k_putf (C := RX1) (T := TX1) (N := 14) (ci := 1) (index := 31) (kf := 6) (ty := .boolean) dX1_clear_17 rfl (fun w h => List.mem_cons_of_mem _ (inX1 w h)) tyX1 tyX1_ok nmX1 (by decide) (List.mem_cons_of_mem _ mw_72) rfl rfl (k_aload_n dX1_clear_20 rfl (k_iconst dX1_clear_21 (by decide +kernel) (k_putf (C := RX1) (T := TX1) (N := 14) (ci := 1) (index := 41) (kf := 9) (ty := .int) dX1_clear_22 rfl (fun w h => List.mem_cons_of_mem _ (inX1 w h)) tyX1 tyX1_ok nmX1 (by decide) (List.mem_cons_of_mem _ mw_77) rfl rfl (k_aload_n dX1_clear_25 rfl (k_iconst dX1_clear_26 (by decide +kernel) (k_putf (C := RX1) (T := TX1) (N := 14) (ci := 1) (index := 48) (kf := 11) (ty := .int) dX1_clear_27 rfl (fun w h => List.mem_cons_of_mem _ (inX1 w h)) tyX1 tyX1_ok nmX1 (by decide) (List.mem_cons_of_mem _ mw_81) rfl rfl (k_aload_n dX1_clear_30 rfl (k_iconst dX1_clear_31 (by decide +kernel) (k_putf (C := RX1) (T := TX1) (N := 14) (ci := 1) (index := 51) (kf := 12) (ty := .int) dX1_clear_32 rfl (fun w h => List.mem_cons_of_mem _ (inX1 w h)) tyX1 tyX1_ok nmX1 (by decide) (List.mem_cons_of_mem _ mw_84) rfl rfl (k_aload_n dX1_clear_35 rfl (k_iconst dX1_clear_36 (by decide +kernel) (k_putf (C := RX1) (T := TX1) (N := 14) (ci := 1) (index := 54) (kf := 13) (ty := .int) dX1_clear_37 rfl (fun w h => List.mem_cons_of_mem _ (inX1 w h)) tyX1 tyX1_ok nmX1 (by decide) (List.mem_cons_of_mem _ mw_86) rfl rfl (k_ret dX1_clear_40 rfl))))))))))))))))))))))))
def mX1_clear : kv_M := kv_in 1 1 (fX1_clear_0)
theorem cX1_clear_ct : kv_CT yX1_clear wX1_clear 0 0 mX1_clear := kv_met (by decide) rfl rfl (by decide) (fun h => by cases h) (sX1_clear_0)
-- X2_hasOpeningBrace
def wX2_hasOpeningBrace : List Cond := Cond.code yX2_hasOpeningBrace cX2_hasOpeningBrace 2 (some .boolean) :: kv_tb
abbrev SX2_hasOpeningBrace (pc : Nat) (F : kv_D) : Prop := kv_S cX2_hasOpeningBrace 2 RX2 wX2_hasOpeningBrace (some .boolean) false 0 0 none pc F
def fX2_hasOpeningBrace_29 (K : Nat → kv_D) : kv_D := o_const 0 (o_iret .boolean)
theorem sX2_hasOpeningBrace_29 {K : Nat → kv_D} (hK : ∀ pc, SX2_hasOpeningBrace pc (K pc)) : SX2_hasOpeningBrace 29 (fX2_hasOpeningBrace_29 K) := k_iconst dX2_hasOpeningBrace_29 (by decide +kernel) (k_iret dX2_hasOpeningBrace_30 rfl)
theorem nX2_hasOpeningBrace_29 : kv_cn (fun K => fX2_hasOpeningBrace_29 K) := cn_const 0 (cn_c _)
def fX2_hasOpeningBrace_23 (K : Nat → kv_D) : kv_D := o_iinc 1 1 ((K 2))
theorem sX2_hasOpeningBrace_23 {K : Nat → kv_D} (hK : ∀ pc, SX2_hasOpeningBrace pc (K pc)) : SX2_hasOpeningBrace 23 (fX2_hasOpeningBrace_23 K) := k_iinc dX2_hasOpeningBrace_23 (by decide +kernel) (by decide) (k_goto dX2_hasOpeningBrace_26 rfl (hK 2))
theorem nX2_hasOpeningBrace_23 : kv_cn (fun K => fX2_hasOpeningBrace_23 K) := cn_iinc 1 1 ((cn_K 2))
def fX2_hasOpeningBrace_21 (K : Nat → kv_D) : kv_D := o_const 1 (o_iret .boolean)
theorem sX2_hasOpeningBrace_21 {K : Nat → kv_D} (hK : ∀ pc, SX2_hasOpeningBrace pc (K pc)) : SX2_hasOpeningBrace 21 (fX2_hasOpeningBrace_21 K) := k_iconst dX2_hasOpeningBrace_21 (by decide +kernel) (k_iret dX2_hasOpeningBrace_22 rfl)
theorem nX2_hasOpeningBrace_21 : kv_cn (fun K => fX2_hasOpeningBrace_21 K) := cn_const 1 (cn_c _)
def fX2_hasOpeningBrace_10 (K : Nat → kv_D) : kv_D := o_aload 0 (o_getf 2 0 (o_iload 1 (o_iald 1 (o_const 123 (o_icne (fX2_hasOpeningBrace_23 K) (fX2_hasOpeningBrace_21 K))))))
theorem sX2_hasOpeningBrace_10 {K : Nat → kv_D} (hK : ∀ pc, SX2_hasOpeningBrace pc (K pc)) : SX2_hasOpeningBrace 10 (fX2_hasOpeningBrace_10 K) := k_aload_n dX2_hasOpeningBrace_10 rfl (k_getf (C := RX2) (T := TX2) (N := 6) (ci := 2) (index := 9) (kf := 0) dX2_hasOpeningBrace_11 rfl (fun w h => List.mem_cons_of_mem _ (inX2 w h)) (by decide) (List.mem_cons_of_mem _ mw_27) (k_iload_n dX2_hasOpeningBrace_14 rfl (k_cald dX2_hasOpeningBrace_15 rfl (k_bipush dX2_hasOpeningBrace_16 (by decide +kernel) (k_icne dX2_hasOpeningBrace_18 rfl (sX2_hasOpeningBrace_23 hK) (sX2_hasOpeningBrace_21 hK))))))
theorem nX2_hasOpeningBrace_10 : kv_cn (fun K => fX2_hasOpeningBrace_10 K) := cn_aload 0 (cn_getf 2 0 (cn_iload 1 (cn_iald 1 (cn_const 123 (cn_icne nX2_hasOpeningBrace_23 nX2_hasOpeningBrace_21)))))
def fX2_hasOpeningBrace_2 (K : Nat → kv_D) : kv_D := o_iload 1 (o_aload 0 (o_getf 2 1 (o_icge (fX2_hasOpeningBrace_29 K) (fX2_hasOpeningBrace_10 K))))
theorem sX2_hasOpeningBrace_2 {K : Nat → kv_D} (hK : ∀ pc, SX2_hasOpeningBrace pc (K pc)) : SX2_hasOpeningBrace 2 (fX2_hasOpeningBrace_2 K) := k_iload_n dX2_hasOpeningBrace_2 rfl (k_aload_n dX2_hasOpeningBrace_3 rfl (k_getf (C := RX2) (T := TX2) (N := 6) (ci := 2) (index := 15) (kf := 1) dX2_hasOpeningBrace_4 rfl (fun w h => List.mem_cons_of_mem _ (inX2 w h)) (by decide) (List.mem_cons_of_mem _ mw_28) (k_icge dX2_hasOpeningBrace_7 rfl (sX2_hasOpeningBrace_29 hK) (sX2_hasOpeningBrace_10 hK))))
theorem nX2_hasOpeningBrace_2 : kv_cn (fun K => fX2_hasOpeningBrace_2 K) := cn_iload 1 (cn_aload 0 (cn_getf 2 1 (cn_icge nX2_hasOpeningBrace_29 nX2_hasOpeningBrace_10)))
def fX2_hasOpeningBrace_0 (K : Nat → kv_D) : kv_D := o_const 0 (o_istore 1 ((K 2)))
theorem sX2_hasOpeningBrace_0 {K : Nat → kv_D} (hK : ∀ pc, SX2_hasOpeningBrace pc (K pc)) : SX2_hasOpeningBrace 0 (fX2_hasOpeningBrace_0 K) := k_iconst dX2_hasOpeningBrace_0 (by decide +kernel) (k_istore_n dX2_hasOpeningBrace_1 rfl (by decide) ((hK 2)))
theorem nX2_hasOpeningBrace_0 : kv_cn (fun K => fX2_hasOpeningBrace_0 K) := cn_const 0 (cn_istore 1 ((cn_K 2)))
def bX2_hasOpeningBrace (K : Nat → kv_D) (pc : Nat) : kv_D := if pc = 2 then fX2_hasOpeningBrace_2 K else fun _ _ _ _ _ => False
theorem hX2_hasOpeningBrace : ∀ pc, SX2_hasOpeningBrace pc (kv_lim (bX2_hasOpeningBrace) pc) := kv_lim_S (fun K hK pc => by
  unfold bX2_hasOpeningBrace
  by_cases q2 : pc = 2
  · rw [if_pos q2, q2]
    exact sX2_hasOpeningBrace_2 hK
  rw [if_neg q2]
  exact kv_none)
theorem uX2_hasOpeningBrace_2 {L : List (Option Value)} {st : List Value} {h : kv_H} {v : Option Value} {h' : kv_H} (hx : fX2_hasOpeningBrace_2 (kv_lim (bX2_hasOpeningBrace)) L st h v h') : kv_lim (bX2_hasOpeningBrace) 2 L st h v h' := kv_un (q := 2) (by have e : (fun K => bX2_hasOpeningBrace K 2) = fun K => fX2_hasOpeningBrace_2 K := (by funext K; rfl); rw [e]; exact nX2_hasOpeningBrace_2) (by have e : bX2_hasOpeningBrace (kv_lim (bX2_hasOpeningBrace)) 2 = fX2_hasOpeningBrace_2 (kv_lim (bX2_hasOpeningBrace)) := rfl; rw [e]; exact hx)
def mX2_hasOpeningBrace : kv_M := kv_in 1 2 (fX2_hasOpeningBrace_0 (kv_lim (bX2_hasOpeningBrace)))
theorem cX2_hasOpeningBrace_ct : kv_CT yX2_hasOpeningBrace wX2_hasOpeningBrace 0 0 mX2_hasOpeningBrace := kv_met (by decide) rfl rfl (by decide) (fun h => by cases h) (sX2_hasOpeningBrace_0 (hX2_hasOpeningBrace))
-- X2_beginsElement
def wX2_beginsElement : List Cond := Cond.code yX2_beginsElement cX2_beginsElement 1 (some .boolean) :: kv_tb
abbrev SX2_beginsElement (pc : Nat) (F : kv_D) : Prop := kv_S cX2_beginsElement 1 RX2 wX2_beginsElement (some .boolean) false 1 20 none pc F
def fX2_beginsElement_31 : kv_D := o_iret .boolean
theorem sX2_beginsElement_31 : SX2_beginsElement 31 (fX2_beginsElement_31) := k_iret dX2_beginsElement_31 rfl
def fX2_beginsElement_30 : kv_D := o_const 0 ((fX2_beginsElement_31))
theorem sX2_beginsElement_30 : SX2_beginsElement 30 (fX2_beginsElement_30) := k_iconst dX2_beginsElement_30 (by decide +kernel) ((sX2_beginsElement_31))
def fX2_beginsElement_26 : kv_D := o_const 1 ((fX2_beginsElement_31))
theorem sX2_beginsElement_26 : SX2_beginsElement 26 (fX2_beginsElement_26) := k_iconst dX2_beginsElement_26 (by decide +kernel) (k_goto dX2_beginsElement_27 rfl (sX2_beginsElement_31))
def fX2_beginsElement_20 : kv_D := o_iload 0 (o_const 91 (o_icne (fX2_beginsElement_30) (fX2_beginsElement_26)))
theorem sX2_beginsElement_20 : SX2_beginsElement 20 (fX2_beginsElement_20) := k_iload_n dX2_beginsElement_20 rfl (k_bipush dX2_beginsElement_21 (by decide +kernel) (k_icne dX2_beginsElement_23 rfl (sX2_beginsElement_30) (sX2_beginsElement_26)))
def fX2_beginsElement_14 : kv_D := o_iload 0 (o_const 46 (o_iceq (fX2_beginsElement_26) (fX2_beginsElement_20)))
theorem sX2_beginsElement_14 : SX2_beginsElement 14 (fX2_beginsElement_14) := k_iload_n dX2_beginsElement_14 rfl (k_bipush dX2_beginsElement_15 (by decide +kernel) (k_iceq dX2_beginsElement_17 rfl (sX2_beginsElement_26) (sX2_beginsElement_20)))
def fX2_beginsElement_7 : kv_D := o_iload 0 (o_callS 1 mX4_isCapital (o_ifne (fX2_beginsElement_26) (fX2_beginsElement_14)))
theorem sX2_beginsElement_7 : SX2_beginsElement 7 (fX2_beginsElement_7) := k_iload_n dX2_beginsElement_7 rfl (k_callSN dX2_beginsElement_8 cX4_isCapital_ct rfl (kv_goodC mw_188) mw_186 (List.mem_cons_of_mem _ mw_1) (List.mem_cons_of_mem _ mw_187) (by decide +kernel) (by decide) (by decide) (k_ifne dX2_beginsElement_11 rfl (sX2_beginsElement_26) (sX2_beginsElement_14)))
def fX2_beginsElement_0 : kv_D := o_iload 0 (o_callS 1 mX4_isSmall (o_ifne (fX2_beginsElement_26) (fX2_beginsElement_7)))
theorem sX2_beginsElement_0 : SX2_beginsElement 0 (fX2_beginsElement_0) := k_iload_n dX2_beginsElement_0 rfl (k_callSN dX2_beginsElement_1 cX4_isSmall_ct rfl (kv_goodC mw_207) mw_205 (List.mem_cons_of_mem _ mw_1) (List.mem_cons_of_mem _ mw_206) (by decide +kernel) (by decide) (by decide) (k_ifne dX2_beginsElement_4 rfl (sX2_beginsElement_26) (sX2_beginsElement_7)))
def mX2_beginsElement : kv_M := kv_in 1 1 (fX2_beginsElement_0)
theorem cX2_beginsElement_ct : kv_CT yX2_beginsElement wX2_beginsElement 1 20 mX2_beginsElement := kv_met (by decide) rfl rfl (by decide) (fun h => by cases h) (sX2_beginsElement_0)
-- X2_readQuantifier
def wX2_readQuantifier : List Cond := Cond.code yX2_readQuantifier cX2_readQuantifier 2 (some .char) :: kv_tb
abbrev SX2_readQuantifier (pc : Nat) (F : kv_D) : Prop := kv_S cX2_readQuantifier 2 RX2 wX2_readQuantifier (some .char) false 1 20 none pc F
def fX2_readQuantifier_35 : kv_D := o_const 0 (o_iret .char)
theorem sX2_readQuantifier_35 : SX2_readQuantifier 35 (fX2_readQuantifier_35) := k_iconst dX2_readQuantifier_35 (by decide +kernel) (k_iret dX2_readQuantifier_36 rfl)
def fX2_readQuantifier_23 : kv_D := o_aload 0 (o_dup (o_getf 2 2 (o_const 1 (o_iadd (o_putf 2 2 .int (o_iload 1 (o_iret .char)))))))
theorem sX2_readQuantifier_23 : SX2_readQuantifier 23 (fX2_readQuantifier_23) := k_aload_n dX2_readQuantifier_23 rfl (k_dup dX2_readQuantifier_24 (k_getf (C := RX2) (T := TX2) (N := 6) (ci := 2) (index := 19) (kf := 2) dX2_readQuantifier_25 rfl (fun w h => List.mem_cons_of_mem _ (inX2 w h)) (by decide) (List.mem_cons_of_mem _ mw_29) (k_iconst dX2_readQuantifier_28 (by decide +kernel) (k_iadd dX2_readQuantifier_29 (k_putf (C := RX2) (T := TX2) (N := 6) (ci := 2) (index := 19) (kf := 2) (ty := .int) dX2_readQuantifier_30 rfl (fun w h => List.mem_cons_of_mem _ (inX2 w h)) tyX2 tyX2_ok nmX2 (by decide) (List.mem_cons_of_mem _ mw_29) rfl rfl (k_iload_n dX2_readQuantifier_33 rfl (k_iret dX2_readQuantifier_34 rfl)))))))
def fX2_readQuantifier_17 : kv_D := o_iload 1 (o_const 63 (o_icne (fX2_readQuantifier_35) (fX2_readQuantifier_23)))
theorem sX2_readQuantifier_17 : SX2_readQuantifier 17 (fX2_readQuantifier_17) := k_iload_n dX2_readQuantifier_17 rfl (k_bipush dX2_readQuantifier_18 (by decide +kernel) (k_icne dX2_readQuantifier_20 rfl (sX2_readQuantifier_35) (sX2_readQuantifier_23)))
def fX2_readQuantifier_11 : kv_D := o_iload 1 (o_const 43 (o_iceq (fX2_readQuantifier_23) (fX2_readQuantifier_17)))
theorem sX2_readQuantifier_11 : SX2_readQuantifier 11 (fX2_readQuantifier_11) := k_iload_n dX2_readQuantifier_11 rfl (k_bipush dX2_readQuantifier_12 (by decide +kernel) (k_iceq dX2_readQuantifier_14 rfl (sX2_readQuantifier_23) (sX2_readQuantifier_17)))
def fX2_readQuantifier_0 : kv_D := o_aload 0 (o_callV 2 0 mX2_next (o_istore 1 (o_iload 1 (o_const 42 (o_iceq (fX2_readQuantifier_23) (fX2_readQuantifier_11))))))
theorem sX2_readQuantifier_0 : SX2_readQuantifier 0 (fX2_readQuantifier_0) := k_aload_n dX2_readQuantifier_0 rfl (k_callV (q := (RX2, TX2, 6)) dX2_readQuantifier_1 cX2_next_ct rfl (kv_goodV mw_201 mw_203 sel_X2_next mw_2 mw_204) (by decide +kernel) rfl (by decide) (by decide) (k_istore_n dX2_readQuantifier_4 rfl (by decide) (k_iload_n dX2_readQuantifier_5 rfl (k_bipush dX2_readQuantifier_6 (by decide +kernel) (k_iceq dX2_readQuantifier_8 rfl (sX2_readQuantifier_23) (sX2_readQuantifier_11))))))
def mX2_readQuantifier : kv_M := kv_in 1 2 (fX2_readQuantifier_0)
theorem cX2_readQuantifier_ct : kv_CT yX2_readQuantifier wX2_readQuantifier 1 20 mX2_readQuantifier := kv_met (by decide) rfl rfl (by decide) (fun h => by cases h) (sX2_readQuantifier_0)
end
section
theorem dX1_addElement_120 : decode cX1_addElement 120 = .ok (.aload_n 0, 1) := by decide +kernel
theorem dX1_addElement_121 : decode cX1_addElement 121 = .ok (.dup, 1) := by decide +kernel
theorem dX1_addElement_122 : decode cX1_addElement 122 = .ok (.getfield 21, 3) := by decide +kernel
theorem dX1_addElement_125 : decode cX1_addElement 125 = .ok (.iconst 1, 1) := by decide +kernel
theorem dX1_addElement_126 : decode cX1_addElement 126 = .ok (.iadd, 1) := by decide +kernel
theorem dX1_addElement_127 : decode cX1_addElement 127 = .ok (.putfield 21, 3) := by decide +kernel
theorem dX1_addElement_130 : decode cX1_addElement 130 = .ok (.return_, 1) := by decide +kernel
theorem dX1_addElement_119 : decode cX1_addElement 119 = .ok (.iastore, 1) := by decide +kernel
theorem dX1_addElement_118 : decode cX1_addElement 118 = .ok (.iconst 1, 1) := by decide +kernel
theorem dX1_addElement_112 : decode cX1_addElement 112 = .ok (.sipush 1000, 3) := by decide +kernel
theorem dX1_addElement_115 : decode cX1_addElement 115 = .ok (.goto 4, 3) := by decide +kernel
theorem dX1_addElement_99 : decode cX1_addElement 99 = .ok (.iastore, 1) := by decide +kernel
theorem dX1_addElement_100 : decode cX1_addElement 100 = .ok (.aload_n 0, 1) := by decide +kernel
theorem dX1_addElement_101 : decode cX1_addElement 101 = .ok (.getfield 18, 3) := by decide +kernel
theorem dX1_addElement_104 : decode cX1_addElement 104 = .ok (.aload_n 0, 1) := by decide +kernel
theorem dX1_addElement_105 : decode cX1_addElement 105 = .ok (.getfield 21, 3) := by decide +kernel
theorem dX1_addElement_108 : decode cX1_addElement 108 = .ok (.iload_n 3, 1) := by decide +kernel
theorem dX1_addElement_109 : decode cX1_addElement 109 = .ok (.ifCond .eq 9, 3) := by decide +kernel
theorem dX1_addElement_98 : decode cX1_addElement 98 = .ok (.iconst 1, 1) := by decide +kernel
theorem dX1_addElement_94 : decode cX1_addElement 94 = .ok (.iconst 0, 1) := by decide +kernel
theorem dX1_addElement_95 : decode cX1_addElement 95 = .ok (.goto 4, 3) := by decide +kernel
theorem dX1_addElement_71 : decode cX1_addElement 71 = .ok (.aload_n 0, 1) := by decide +kernel
theorem dX1_addElement_72 : decode cX1_addElement 72 = .ok (.getfield 9, 3) := by decide +kernel
theorem dX1_addElement_75 : decode cX1_addElement 75 = .ok (.aload_n 0, 1) := by decide +kernel
theorem dX1_addElement_76 : decode cX1_addElement 76 = .ok (.getfield 21, 3) := by decide +kernel
theorem dX1_addElement_79 : decode cX1_addElement 79 = .ok (.iload_n 1, 1) := by decide +kernel
theorem dX1_addElement_80 : decode cX1_addElement 80 = .ok (.iastore, 1) := by decide +kernel
theorem dX1_addElement_81 : decode cX1_addElement 81 = .ok (.aload_n 0, 1) := by decide +kernel
theorem dX1_addElement_82 : decode cX1_addElement 82 = .ok (.getfield 15, 3) := by decide +kernel
theorem dX1_addElement_85 : decode cX1_addElement 85 = .ok (.aload_n 0, 1) := by decide +kernel
theorem dX1_addElement_86 : decode cX1_addElement 86 = .ok (.getfield 21, 3) := by decide +kernel
theorem dX1_addElement_89 : decode cX1_addElement 89 = .ok (.iload 4, 2) := by decide +kernel
theorem dX1_addElement_91 : decode cX1_addElement 91 = .ok (.ifCond .eq 7, 3) := by decide +kernel
theorem dX1_addElement_59 : decode cX1_addElement 59 = .ok (.putfield 31, 3) := by decide +kernel
theorem dX1_addElement_62 : decode cX1_addElement 62 = .ok (.aload_n 0, 1) := by decide +kernel
theorem dX1_addElement_63 : decode cX1_addElement 63 = .ok (.getfield 21, 3) := by decide +kernel
theorem dX1_addElement_66 : decode cX1_addElement 66 = .ok (.bipush 12, 2) := by decide +kernel
theorem dX1_addElement_68 : decode cX1_addElement 68 = .ok (.if_icmp .ge 52, 3) := by decide +kernel
theorem dX1_addElement_58 : decode cX1_addElement 58 = .ok (.iconst 0, 1) := by decide +kernel
theorem dX1_addElement_54 : decode cX1_addElement 54 = .ok (.iconst 1, 1) := by decide +kernel
theorem dX1_addElement_55 : decode cX1_addElement 55 = .ok (.goto 4, 3) := by decide +kernel
theorem dX1_addElement_49 : decode cX1_addElement 49 = .ok (.iload 4, 2) := by decide +kernel
theorem dX1_addElement_51 : decode cX1_addElement 51 = .ok (.ifCond .eq 7, 3) := by decide +kernel
theorem dX1_addElement_45 : decode cX1_addElement 45 = .ok (.iload_n 3, 1) := by decide +kernel
theorem dX1_addElement_46 : decode cX1_addElement 46 = .ok (.ifCond .ne 8, 3) := by decide +kernel
theorem dX1_addElement_35 : decode cX1_addElement 35 = .ok (.istore 4, 2) := by decide +kernel
theorem dX1_addElement_37 : decode cX1_addElement 37 = .ok (.aload_n 0, 1) := by decide +kernel
theorem dX1_addElement_38 : decode cX1_addElement 38 = .ok (.aload_n 0, 1) := by decide +kernel
theorem dX1_addElement_39 : decode cX1_addElement 39 = .ok (.getfield 31, 3) := by decide +kernel
theorem dX1_addElement_42 : decode cX1_addElement 42 = .ok (.ifCond .ne 12, 3) := by decide +kernel
theorem dX1_addElement_34 : decode cX1_addElement 34 = .ok (.iconst 0, 1) := by decide +kernel
theorem dX1_addElement_30 : decode cX1_addElement 30 = .ok (.iconst 1, 1) := by decide +kernel
theorem dX1_addElement_31 : decode cX1_addElement 31 = .ok (.goto 4, 3) := by decide +kernel
theorem dX1_addElement_24 : decode cX1_addElement 24 = .ok (.iload_n 2, 1) := by decide +kernel
theorem dX1_addElement_25 : decode cX1_addElement 25 = .ok (.bipush 63, 2) := by decide +kernel
theorem dX1_addElement_27 : decode cX1_addElement 27 = .ok (.if_icmp .ne 7, 3) := by decide +kernel
theorem dX1_addElement_17 : decode cX1_addElement 17 = .ok (.istore_n 3, 1) := by decide +kernel
theorem dX1_addElement_18 : decode cX1_addElement 18 = .ok (.iload_n 2, 1) := by decide +kernel
theorem dX1_addElement_19 : decode cX1_addElement 19 = .ok (.bipush 42, 2) := by decide +kernel
theorem dX1_addElement_21 : decode cX1_addElement 21 = .ok (.if_icmp .eq 9, 3) := by decide +kernel
theorem dX1_addElement_16 : decode cX1_addElement 16 = .ok (.iconst 0, 1) := by decide +kernel
theorem dX1_addElement_12 : decode cX1_addElement 12 = .ok (.iconst 1, 1) := by decide +kernel
theorem dX1_addElement_13 : decode cX1_addElement 13 = .ok (.goto 4, 3) := by decide +kernel
theorem dX1_addElement_6 : decode cX1_addElement 6 = .ok (.iload_n 2, 1) := by decide +kernel
theorem dX1_addElement_7 : decode cX1_addElement 7 = .ok (.bipush 43, 2) := by decide +kernel
theorem dX1_addElement_9 : decode cX1_addElement 9 = .ok (.if_icmp .ne 7, 3) := by decide +kernel
theorem dX1_addElement_0 : decode cX1_addElement 0 = .ok (.iload_n 2, 1) := by decide +kernel
theorem dX1_addElement_1 : decode cX1_addElement 1 = .ok (.bipush 42, 2) := by decide +kernel
theorem dX1_addElement_3 : decode cX1_addElement 3 = .ok (.if_icmp .eq 9, 3) := by decide +kernel
theorem dX2_readContext_47 : decode cX2_readContext 47 = .ok (.iconst 1, 1) := by decide +kernel
theorem dX2_readContext_48 : decode cX2_readContext 48 = .ok (.ireturn, 1) := by decide +kernel
theorem dX2_readContext_29 : decode cX2_readContext 29 = .ok (.aload_n 1, 1) := by decide +kernel
theorem dX2_readContext_30 : decode cX2_readContext 30 = .ok (.aload_n 0, 1) := by decide +kernel
theorem dX2_readContext_31 : decode cX2_readContext 31 = .ok (.getfield 26, 3) := by decide +kernel
theorem dX2_readContext_34 : decode cX2_readContext 34 = .ok (.aload_n 0, 1) := by decide +kernel
theorem dX2_readContext_35 : decode cX2_readContext 35 = .ok (.invokevirtual 78, 3) := by decide +kernel
theorem dX2_readContext_38 : decode cX2_readContext 38 = .ok (.invokevirtual 81, 3) := by decide +kernel
theorem dX2_readContext_41 : decode cX2_readContext 41 = .ok (.iinc 2 1, 3) := by decide +kernel
theorem dX2_readContext_44 : decode cX2_readContext 44 = .ok (.goto (-42), 3) := by decide +kernel
theorem dX2_readContext_27 : decode cX2_readContext 27 = .ok (.iconst 0, 1) := by decide +kernel
theorem dX2_readContext_28 : decode cX2_readContext 28 = .ok (.ireturn, 1) := by decide +kernel
theorem dX2_readContext_20 : decode cX2_readContext 20 = .ok (.aload_n 0, 1) := by decide +kernel
theorem dX2_readContext_21 : decode cX2_readContext 21 = .ok (.invokevirtual 40, 3) := by decide +kernel
theorem dX2_readContext_24 : decode cX2_readContext 24 = .ok (.ifCond .ne 5, 3) := by decide +kernel
theorem dX2_readContext_10 : decode cX2_readContext 10 = .ok (.aload_n 0, 1) := by decide +kernel
theorem dX2_readContext_11 : decode cX2_readContext 11 = .ok (.invokevirtual 71, 3) := by decide +kernel
theorem dX2_readContext_14 : decode cX2_readContext 14 = .ok (.invokestatic 75, 3) := by decide +kernel
theorem dX2_readContext_17 : decode cX2_readContext 17 = .ok (.ifCond .eq 30, 3) := by decide +kernel
theorem dX2_readContext_2 : decode cX2_readContext 2 = .ok (.iload_n 2, 1) := by decide +kernel
theorem dX2_readContext_3 : decode cX2_readContext 3 = .ok (.aload_n 0, 1) := by decide +kernel
theorem dX2_readContext_4 : decode cX2_readContext 4 = .ok (.getfield 15, 3) := by decide +kernel
theorem dX2_readContext_7 : decode cX2_readContext 7 = .ok (.if_icmp .ge 40, 3) := by decide +kernel
theorem dX2_readContext_0 : decode cX2_readContext 0 = .ok (.iconst 0, 1) := by decide +kernel
theorem dX2_readContext_1 : decode cX2_readContext 1 = .ok (.istore_n 2, 1) := by decide +kernel
theorem dX1_addSegment_31 : decode cX1_addSegment 31 = .ok (.aload_n 0, 1) := by decide +kernel
theorem dX1_addSegment_32 : decode cX1_addSegment 32 = .ok (.dup, 1) := by decide +kernel
theorem dX1_addSegment_33 : decode cX1_addSegment 33 = .ok (.getfield 41, 3) := by decide +kernel
theorem dX1_addSegment_36 : decode cX1_addSegment 36 = .ok (.iconst 1, 1) := by decide +kernel
theorem dX1_addSegment_37 : decode cX1_addSegment 37 = .ok (.iadd, 1) := by decide +kernel
theorem dX1_addSegment_38 : decode cX1_addSegment 38 = .ok (.putfield 41, 3) := by decide +kernel
theorem dX1_addSegment_41 : decode cX1_addSegment 41 = .ok (.return_, 1) := by decide +kernel
theorem dX1_addSegment_8 : decode cX1_addSegment 8 = .ok (.aload_n 0, 1) := by decide +kernel
theorem dX1_addSegment_9 : decode cX1_addSegment 9 = .ok (.getfield 35, 3) := by decide +kernel
theorem dX1_addSegment_12 : decode cX1_addSegment 12 = .ok (.aload_n 0, 1) := by decide +kernel
theorem dX1_addSegment_13 : decode cX1_addSegment 13 = .ok (.getfield 41, 3) := by decide +kernel
theorem dX1_addSegment_16 : decode cX1_addSegment 16 = .ok (.iload_n 1, 1) := by decide +kernel
theorem dX1_addSegment_17 : decode cX1_addSegment 17 = .ok (.iastore, 1) := by decide +kernel
theorem dX1_addSegment_18 : decode cX1_addSegment 18 = .ok (.aload_n 0, 1) := by decide +kernel
theorem dX1_addSegment_19 : decode cX1_addSegment 19 = .ok (.getfield 38, 3) := by decide +kernel
theorem dX1_addSegment_22 : decode cX1_addSegment 22 = .ok (.aload_n 0, 1) := by decide +kernel
theorem dX1_addSegment_23 : decode cX1_addSegment 23 = .ok (.getfield 41, 3) := by decide +kernel
theorem dX1_addSegment_26 : decode cX1_addSegment 26 = .ok (.aload_n 0, 1) := by decide +kernel
theorem dX1_addSegment_27 : decode cX1_addSegment 27 = .ok (.getfield 21, 3) := by decide +kernel
theorem dX1_addSegment_30 : decode cX1_addSegment 30 = .ok (.iastore, 1) := by decide +kernel
theorem dX1_addSegment_0 : decode cX1_addSegment 0 = .ok (.aload_n 0, 1) := by decide +kernel
theorem dX1_addSegment_1 : decode cX1_addSegment 1 = .ok (.getfield 41, 3) := by decide +kernel
theorem dX1_addSegment_4 : decode cX1_addSegment 4 = .ok (.iconst 3, 1) := by decide +kernel
theorem dX1_addSegment_5 : decode cX1_addSegment 5 = .ok (.if_icmp .ge 26, 3) := by decide +kernel
theorem dX2_readKey_133 : decode cX2_readKey 133 = .ok (.ireturn, 1) := by decide +kernel
theorem dX2_readKey_132 : decode cX2_readKey 132 = .ok (.iconst 0, 1) := by decide +kernel
theorem dX2_readKey_128 : decode cX2_readKey 128 = .ok (.iconst 1, 1) := by decide +kernel
theorem dX2_readKey_129 : decode cX2_readKey 129 = .ok (.goto 4, 3) := by decide +kernel
theorem dX2_readKey_117 : decode cX2_readKey 117 = .ok (.aload_n 1, 1) := by decide +kernel
theorem dX2_readKey_118 : decode cX2_readKey 118 = .ok (.getfield 54, 3) := by decide +kernel
theorem dX2_readKey_121 : decode cX2_readKey 121 = .ok (.aload_n 1, 1) := by decide +kernel
theorem dX2_readKey_122 : decode cX2_readKey 122 = .ok (.getfield 59, 3) := by decide +kernel
theorem dX2_readKey_125 : decode cX2_readKey 125 = .ok (.if_icmp .le 7, 3) := by decide +kernel
theorem dX2_readKey_113 : decode cX2_readKey 113 = .ok (.iload_n 2, 1) := by decide +kernel
theorem dX2_readKey_114 : decode cX2_readKey 114 = .ok (.ifCond .ne 18, 3) := by decide +kernel
theorem dX2_readKey_107 : decode cX2_readKey 107 = .ok (.iinc 4 1, 3) := by decide +kernel
theorem dX2_readKey_110 : decode cX2_readKey 110 = .ok (.goto (-100), 3) := by decide +kernel
theorem dX2_readKey_95 : decode cX2_readKey 95 = .ok (.aload_n 1, 1) := by decide +kernel
theorem dX2_readKey_96 : decode cX2_readKey 96 = .ok (.aload_n 0, 1) := by decide +kernel
theorem dX2_readKey_97 : decode cX2_readKey 97 = .ok (.getfield 26, 3) := by decide +kernel
theorem dX2_readKey_100 : decode cX2_readKey 100 = .ok (.aload_n 0, 1) := by decide +kernel
theorem dX2_readKey_101 : decode cX2_readKey 101 = .ok (.invokevirtual 78, 3) := by decide +kernel
theorem dX2_readKey_104 : decode cX2_readKey 104 = .ok (.invokevirtual 81, 3) := by decide +kernel
theorem dX2_readKey_93 : decode cX2_readKey 93 = .ok (.iconst 0, 1) := by decide +kernel
theorem dX2_readKey_94 : decode cX2_readKey 94 = .ok (.ireturn, 1) := by decide +kernel
theorem dX2_readKey_86 : decode cX2_readKey 86 = .ok (.aload_n 0, 1) := by decide +kernel
theorem dX2_readKey_87 : decode cX2_readKey 87 = .ok (.invokevirtual 40, 3) := by decide +kernel
theorem dX2_readKey_90 : decode cX2_readKey 90 = .ok (.ifCond .ne 5, 3) := by decide +kernel
theorem dX2_readKey_83 : decode cX2_readKey 83 = .ok (.goto 30, 3) := by decide +kernel
theorem dX2_readKey_73 : decode cX2_readKey 73 = .ok (.aload_n 0, 1) := by decide +kernel
theorem dX2_readKey_74 : decode cX2_readKey 74 = .ok (.invokevirtual 71, 3) := by decide +kernel
theorem dX2_readKey_77 : decode cX2_readKey 77 = .ok (.invokestatic 75, 3) := by decide +kernel
theorem dX2_readKey_80 : decode cX2_readKey 80 = .ok (.ifCond .ne 6, 3) := by decide +kernel
theorem dX2_readKey_63 : decode cX2_readKey 63 = .ok (.iconst 0, 1) := by decide +kernel
theorem dX2_readKey_64 : decode cX2_readKey 64 = .ok (.istore_n 2, 1) := by decide +kernel
theorem dX2_readKey_65 : decode cX2_readKey 65 = .ok (.aload_n 1, 1) := by decide +kernel
theorem dX2_readKey_66 : decode cX2_readKey 66 = .ok (.iload_n 3, 1) := by decide +kernel
theorem dX2_readKey_67 : decode cX2_readKey 67 = .ok (.invokevirtual 85, 3) := by decide +kernel
theorem dX2_readKey_70 : decode cX2_readKey 70 = .ok (.goto 37, 3) := by decide +kernel
theorem dX2_readKey_54 : decode cX2_readKey 54 = .ok (.aload_n 0, 1) := by decide +kernel
theorem dX2_readKey_55 : decode cX2_readKey 55 = .ok (.bipush 41, 2) := by decide +kernel
theorem dX2_readKey_57 : decode cX2_readKey 57 = .ok (.invokevirtual 51, 3) := by decide +kernel
theorem dX2_readKey_60 : decode cX2_readKey 60 = .ok (.ifCond .eq 13, 3) := by decide +kernel
theorem dX2_readKey_46 : decode cX2_readKey 46 = .ok (.aload_n 1, 1) := by decide +kernel
theorem dX2_readKey_47 : decode cX2_readKey 47 = .ok (.getfield 54, 3) := by decide +kernel
theorem dX2_readKey_50 : decode cX2_readKey 50 = .ok (.iload_n 3, 1) := by decide +kernel
theorem dX2_readKey_51 : decode cX2_readKey 51 = .ok (.if_icmp .le 22, 3) := by decide +kernel
theorem dX2_readKey_42 : decode cX2_readKey 42 = .ok (.iload_n 2, 1) := by decide +kernel
theorem dX2_readKey_43 : decode cX2_readKey 43 = .ok (.ifCond .eq 30, 3) := by decide +kernel
theorem dX2_readKey_32 : decode cX2_readKey 32 = .ok (.iconst 1, 1) := by decide +kernel
theorem dX2_readKey_33 : decode cX2_readKey 33 = .ok (.istore_n 2, 1) := by decide +kernel
theorem dX2_readKey_34 : decode cX2_readKey 34 = .ok (.aload_n 1, 1) := by decide +kernel
theorem dX2_readKey_35 : decode cX2_readKey 35 = .ok (.getfield 54, 3) := by decide +kernel
theorem dX2_readKey_38 : decode cX2_readKey 38 = .ok (.istore_n 3, 1) := by decide +kernel
theorem dX2_readKey_39 : decode cX2_readKey 39 = .ok (.goto 68, 3) := by decide +kernel
theorem dX2_readKey_23 : decode cX2_readKey 23 = .ok (.aload_n 0, 1) := by decide +kernel
theorem dX2_readKey_24 : decode cX2_readKey 24 = .ok (.bipush 40, 2) := by decide +kernel
theorem dX2_readKey_26 : decode cX2_readKey 26 = .ok (.invokevirtual 51, 3) := by decide +kernel
theorem dX2_readKey_29 : decode cX2_readKey 29 = .ok (.ifCond .eq 13, 3) := by decide +kernel
theorem dX2_readKey_19 : decode cX2_readKey 19 = .ok (.iload_n 2, 1) := by decide +kernel
theorem dX2_readKey_20 : decode cX2_readKey 20 = .ok (.ifCond .ne 22, 3) := by decide +kernel
theorem dX2_readKey_10 : decode cX2_readKey 10 = .ok (.iload 4, 2) := by decide +kernel
theorem dX2_readKey_12 : decode cX2_readKey 12 = .ok (.aload_n 0, 1) := by decide +kernel
theorem dX2_readKey_13 : decode cX2_readKey 13 = .ok (.getfield 15, 3) := by decide +kernel
theorem dX2_readKey_16 : decode cX2_readKey 16 = .ok (.if_icmp .ge 97, 3) := by decide +kernel
theorem dX2_readKey_0 : decode cX2_readKey 0 = .ok (.iconst 0, 1) := by decide +kernel
theorem dX2_readKey_1 : decode cX2_readKey 1 = .ok (.istore_n 2, 1) := by decide +kernel
theorem dX2_readKey_2 : decode cX2_readKey 2 = .ok (.aload_n 1, 1) := by decide +kernel
theorem dX2_readKey_3 : decode cX2_readKey 3 = .ok (.getfield 54, 3) := by decide +kernel
theorem dX2_readKey_6 : decode cX2_readKey 6 = .ok (.istore_n 3, 1) := by decide +kernel
theorem dX2_readKey_7 : decode cX2_readKey 7 = .ok (.iconst 0, 1) := by decide +kernel
theorem dX2_readKey_8 : decode cX2_readKey 8 = .ok (.istore 4, 2) := by decide +kernel
theorem dX1_addPiece_51 : decode cX1_addPiece 51 = .ok (.return_, 1) := by decide +kernel
theorem dX1_addPiece_36 : decode cX1_addPiece 36 = .ok (.aload_n 0, 1) := by decide +kernel
theorem dX1_addPiece_37 : decode cX1_addPiece 37 = .ok (.aload_n 0, 1) := by decide +kernel
theorem dX1_addPiece_38 : decode cX1_addPiece 38 = .ok (.getfield 51, 3) := by decide +kernel
theorem dX1_addPiece_41 : decode cX1_addPiece 41 = .ok (.iload_n 1, 1) := by decide +kernel
theorem dX1_addPiece_42 : decode cX1_addPiece 42 = .ok (.bipush 48, 2) := by decide +kernel
theorem dX1_addPiece_44 : decode cX1_addPiece 44 = .ok (.isub, 1) := by decide +kernel
theorem dX1_addPiece_45 : decode cX1_addPiece 45 = .ok (.invokestatic 61, 3) := by decide +kernel
theorem dX1_addPiece_48 : decode cX1_addPiece 48 = .ok (.putfield 51, 3) := by decide +kernel
theorem dX1_addPiece_19 : decode cX1_addPiece 19 = .ok (.aload_n 0, 1) := by decide +kernel
theorem dX1_addPiece_20 : decode cX1_addPiece 20 = .ok (.dup, 1) := by decide +kernel
theorem dX1_addPiece_21 : decode cX1_addPiece 21 = .ok (.getfield 48, 3) := by decide +kernel
theorem dX1_addPiece_24 : decode cX1_addPiece 24 = .ok (.iconst 1, 1) := by decide +kernel
theorem dX1_addPiece_25 : decode cX1_addPiece 25 = .ok (.iadd, 1) := by decide +kernel
theorem dX1_addPiece_26 : decode cX1_addPiece 26 = .ok (.putfield 48, 3) := by decide +kernel
theorem dX1_addPiece_29 : decode cX1_addPiece 29 = .ok (.iload_n 1, 1) := by decide +kernel
theorem dX1_addPiece_30 : decode cX1_addPiece 30 = .ok (.invokestatic 57, 3) := by decide +kernel
theorem dX1_addPiece_33 : decode cX1_addPiece 33 = .ok (.ifCond .ne 18, 3) := by decide +kernel
theorem dX1_addPiece_9 : decode cX1_addPiece 9 = .ok (.aload_n 0, 1) := by decide +kernel
theorem dX1_addPiece_10 : decode cX1_addPiece 10 = .ok (.getfield 44, 3) := by decide +kernel
theorem dX1_addPiece_13 : decode cX1_addPiece 13 = .ok (.aload_n 0, 1) := by decide +kernel
theorem dX1_addPiece_14 : decode cX1_addPiece 14 = .ok (.getfield 48, 3) := by decide +kernel
theorem dX1_addPiece_17 : decode cX1_addPiece 17 = .ok (.iload_n 1, 1) := by decide +kernel
theorem dX1_addPiece_18 : decode cX1_addPiece 18 = .ok (.castore, 1) := by decide +kernel
theorem dX1_addPiece_0 : decode cX1_addPiece 0 = .ok (.aload_n 0, 1) := by decide +kernel
theorem dX1_addPiece_1 : decode cX1_addPiece 1 = .ok (.getfield 48, 3) := by decide +kernel
theorem dX1_addPiece_4 : decode cX1_addPiece 4 = .ok (.bipush 12, 2) := by decide +kernel
theorem dX1_addPiece_6 : decode cX1_addPiece 6 = .ok (.if_icmp .ge 13, 3) := by decide +kernel
theorem dX2_readReplacement_100 : decode cX2_readReplacement 100 = .ok (.iconst 1, 1) := by decide +kernel
theorem dX2_readReplacement_101 : decode cX2_readReplacement 101 = .ok (.ireturn, 1) := by decide +kernel
theorem dX2_readReplacement_92 : decode cX2_readReplacement 92 = .ok (.aload_n 1, 1) := by decide +kernel
theorem dX2_readReplacement_93 : decode cX2_readReplacement 93 = .ok (.aload_n 1, 1) := by decide +kernel
theorem dX2_readReplacement_94 : decode cX2_readReplacement 94 = .ok (.getfield 89, 3) := by decide +kernel
theorem dX2_readReplacement_97 : decode cX2_readReplacement 97 = .ok (.putfield 92, 3) := by decide +kernel
theorem dX2_readReplacement_88 : decode cX2_readReplacement 88 = .ok (.iload_n 2, 1) := by decide +kernel
theorem dX2_readReplacement_89 : decode cX2_readReplacement 89 = .ok (.ifCond .ne 11, 3) := by decide +kernel
theorem dX2_readReplacement_75 : decode cX2_readReplacement 75 = .ok (.aload_n 0, 1) := by decide +kernel
theorem dX2_readReplacement_76 : decode cX2_readReplacement 76 = .ok (.dup, 1) := by decide +kernel
theorem dX2_readReplacement_77 : decode cX2_readReplacement 77 = .ok (.getfield 19, 3) := by decide +kernel
theorem dX2_readReplacement_80 : decode cX2_readReplacement 80 = .ok (.iconst 1, 1) := by decide +kernel
theorem dX2_readReplacement_81 : decode cX2_readReplacement 81 = .ok (.iadd, 1) := by decide +kernel
theorem dX2_readReplacement_82 : decode cX2_readReplacement 82 = .ok (.putfield 19, 3) := by decide +kernel
theorem dX2_readReplacement_85 : decode cX2_readReplacement 85 = .ok (.goto (-83), 3) := by decide +kernel
theorem dX2_readReplacement_73 : decode cX2_readReplacement 73 = .ok (.iconst 0, 1) := by decide +kernel
theorem dX2_readReplacement_74 : decode cX2_readReplacement 74 = .ok (.ireturn, 1) := by decide +kernel
theorem dX2_readReplacement_65 : decode cX2_readReplacement 65 = .ok (.aload_n 1, 1) := by decide +kernel
theorem dX2_readReplacement_66 : decode cX2_readReplacement 66 = .ok (.iload_n 3, 1) := by decide +kernel
theorem dX2_readReplacement_67 : decode cX2_readReplacement 67 = .ok (.invokevirtual 98, 3) := by decide +kernel
theorem dX2_readReplacement_70 : decode cX2_readReplacement 70 = .ok (.goto 5, 3) := by decide +kernel
theorem dX2_readReplacement_59 : decode cX2_readReplacement 59 = .ok (.iload_n 3, 1) := by decide +kernel
theorem dX2_readReplacement_60 : decode cX2_readReplacement 60 = .ok (.bipush 51, 2) := by decide +kernel
theorem dX2_readReplacement_62 : decode cX2_readReplacement 62 = .ok (.if_icmp .gt 11, 3) := by decide +kernel
theorem dX2_readReplacement_53 : decode cX2_readReplacement 53 = .ok (.iload_n 3, 1) := by decide +kernel
theorem dX2_readReplacement_54 : decode cX2_readReplacement 54 = .ok (.bipush 49, 2) := by decide +kernel
theorem dX2_readReplacement_56 : decode cX2_readReplacement 56 = .ok (.if_icmp .lt 17, 3) := by decide +kernel
theorem dX2_readReplacement_46 : decode cX2_readReplacement 46 = .ok (.iload_n 3, 1) := by decide +kernel
theorem dX2_readReplacement_47 : decode cX2_readReplacement 47 = .ok (.invokestatic 95, 3) := by decide +kernel
theorem dX2_readReplacement_50 : decode cX2_readReplacement 50 = .ok (.ifCond .ne 15, 3) := by decide +kernel
theorem dX2_readReplacement_33 : decode cX2_readReplacement 33 = .ok (.iconst 1, 1) := by decide +kernel
theorem dX2_readReplacement_34 : decode cX2_readReplacement 34 = .ok (.istore_n 2, 1) := by decide +kernel
theorem dX2_readReplacement_35 : decode cX2_readReplacement 35 = .ok (.aload_n 1, 1) := by decide +kernel
theorem dX2_readReplacement_36 : decode cX2_readReplacement 36 = .ok (.aload_n 1, 1) := by decide +kernel
theorem dX2_readReplacement_37 : decode cX2_readReplacement 37 = .ok (.getfield 89, 3) := by decide +kernel
theorem dX2_readReplacement_40 : decode cX2_readReplacement 40 = .ok (.putfield 92, 3) := by decide +kernel
theorem dX2_readReplacement_43 : decode cX2_readReplacement 43 = .ok (.goto 32, 3) := by decide +kernel
theorem dX2_readReplacement_29 : decode cX2_readReplacement 29 = .ok (.iload_n 2, 1) := by decide +kernel
theorem dX2_readReplacement_30 : decode cX2_readReplacement 30 = .ok (.ifCond .ne 16, 3) := by decide +kernel
theorem dX2_readReplacement_13 : decode cX2_readReplacement 13 = .ok (.aload_n 0, 1) := by decide +kernel
theorem dX2_readReplacement_14 : decode cX2_readReplacement 14 = .ok (.getfield 9, 3) := by decide +kernel
theorem dX2_readReplacement_17 : decode cX2_readReplacement 17 = .ok (.aload_n 0, 1) := by decide +kernel
theorem dX2_readReplacement_18 : decode cX2_readReplacement 18 = .ok (.getfield 19, 3) := by decide +kernel
theorem dX2_readReplacement_21 : decode cX2_readReplacement 21 = .ok (.caload, 1) := by decide +kernel
theorem dX2_readReplacement_22 : decode cX2_readReplacement 22 = .ok (.istore_n 3, 1) := by decide +kernel
theorem dX2_readReplacement_23 : decode cX2_readReplacement 23 = .ok (.iload_n 3, 1) := by decide +kernel
theorem dX2_readReplacement_24 : decode cX2_readReplacement 24 = .ok (.bipush 124, 2) := by decide +kernel
theorem dX2_readReplacement_26 : decode cX2_readReplacement 26 = .ok (.if_icmp .ne 20, 3) := by decide +kernel
theorem dX2_readReplacement_2 : decode cX2_readReplacement 2 = .ok (.aload_n 0, 1) := by decide +kernel
theorem dX2_readReplacement_3 : decode cX2_readReplacement 3 = .ok (.getfield 19, 3) := by decide +kernel
theorem dX2_readReplacement_6 : decode cX2_readReplacement 6 = .ok (.aload_n 0, 1) := by decide +kernel
theorem dX2_readReplacement_7 : decode cX2_readReplacement 7 = .ok (.getfield 15, 3) := by decide +kernel
theorem dX2_readReplacement_10 : decode cX2_readReplacement 10 = .ok (.if_icmp .ge 78, 3) := by decide +kernel
theorem dX2_readReplacement_0 : decode cX2_readReplacement 0 = .ok (.iconst 0, 1) := by decide +kernel
theorem dX2_readReplacement_1 : decode cX2_readReplacement 1 = .ok (.istore_n 2, 1) := by decide +kernel
-- X1_addElement
def wX1_addElement : List Cond := Cond.code yX1_addElement cX1_addElement 5 none :: kv_tb
abbrev SX1_addElement (pc : Nat) (F : kv_D) : Prop := kv_S cX1_addElement 5 RX1 wX1_addElement none false 0 0 none pc F
def fX1_addElement_120 : kv_D := o_aload 0 (o_dup (o_getf 1 3 (o_const 1 (o_iadd (o_putf 1 3 .int (o_ret))))))
theorem sX1_addElement_120 : SX1_addElement 120 (fX1_addElement_120) := k_aload_n dX1_addElement_120 rfl (k_dup dX1_addElement_121 (k_getf (C := RX1) (T := TX1) (N := 14) (ci := 1) (index := 21) (kf := 3) dX1_addElement_122 rfl (fun w h => List.mem_cons_of_mem _ (inX1 w h)) (by decide) (List.mem_cons_of_mem _ mw_62) (k_iconst dX1_addElement_125 (by decide +kernel) (k_iadd dX1_addElement_126 (k_putf (C := RX1) (T := TX1) (N := 14) (ci := 1) (index := 21) (kf := 3) (ty := .int) dX1_addElement_127 rfl (fun w h => List.mem_cons_of_mem _ (inX1 w h)) tyX1 tyX1_ok nmX1 (by decide) (List.mem_cons_of_mem _ mw_62) rfl rfl (k_ret dX1_addElement_130 rfl))))))
def fX1_addElement_119 : kv_D := o_iast 0 (fun x => x) ((fX1_addElement_120))
theorem sX1_addElement_119 : SX1_addElement 119 (fX1_addElement_119) := k_iast dX1_addElement_119 rfl ((sX1_addElement_120))
def fX1_addElement_118 : kv_D := o_const 1 ((fX1_addElement_119))
theorem sX1_addElement_118 : SX1_addElement 118 (fX1_addElement_118) := k_iconst dX1_addElement_118 (by decide +kernel) ((sX1_addElement_119))
def fX1_addElement_112 : kv_D := o_const 1000 ((fX1_addElement_119))
theorem sX1_addElement_112 : SX1_addElement 112 (fX1_addElement_112) := k_sipush dX1_addElement_112 (by decide +kernel) (k_goto dX1_addElement_115 rfl (sX1_addElement_119))
def fX1_addElement_99 : kv_D := o_iast 0 (fun x => x) (o_aload 0 (o_getf 1 2 (o_aload 0 (o_getf 1 3 (o_iload 3 (o_ifeq (fX1_addElement_118) (fX1_addElement_112)))))))
theorem sX1_addElement_99 : SX1_addElement 99 (fX1_addElement_99) := k_iast dX1_addElement_99 rfl (k_aload_n dX1_addElement_100 rfl (k_getf (C := RX1) (T := TX1) (N := 14) (ci := 1) (index := 18) (kf := 2) dX1_addElement_101 rfl (fun w h => List.mem_cons_of_mem _ (inX1 w h)) (by decide) (List.mem_cons_of_mem _ mw_60) (k_aload_n dX1_addElement_104 rfl (k_getf (C := RX1) (T := TX1) (N := 14) (ci := 1) (index := 21) (kf := 3) dX1_addElement_105 rfl (fun w h => List.mem_cons_of_mem _ (inX1 w h)) (by decide) (List.mem_cons_of_mem _ mw_62) (k_iload_n dX1_addElement_108 rfl (k_ifeq dX1_addElement_109 rfl (sX1_addElement_118) (sX1_addElement_112)))))))
def fX1_addElement_98 : kv_D := o_const 1 ((fX1_addElement_99))
theorem sX1_addElement_98 : SX1_addElement 98 (fX1_addElement_98) := k_iconst dX1_addElement_98 (by decide +kernel) ((sX1_addElement_99))
def fX1_addElement_94 : kv_D := o_const 0 ((fX1_addElement_99))
theorem sX1_addElement_94 : SX1_addElement 94 (fX1_addElement_94) := k_iconst dX1_addElement_94 (by decide +kernel) (k_goto dX1_addElement_95 rfl (sX1_addElement_99))
def fX1_addElement_71 : kv_D := o_aload 0 (o_getf 1 0 (o_aload 0 (o_getf 1 3 (o_iload 1 (o_iast 0 (fun x => x) (o_aload 0 (o_getf 1 1 (o_aload 0 (o_getf 1 3 (o_iload 4 (o_ifeq (fX1_addElement_98) (fX1_addElement_94))))))))))))
theorem sX1_addElement_71 : SX1_addElement 71 (fX1_addElement_71) := k_aload_n dX1_addElement_71 rfl (k_getf (C := RX1) (T := TX1) (N := 14) (ci := 1) (index := 9) (kf := 0) dX1_addElement_72 rfl (fun w h => List.mem_cons_of_mem _ (inX1 w h)) (by decide) (List.mem_cons_of_mem _ mw_56) (k_aload_n dX1_addElement_75 rfl (k_getf (C := RX1) (T := TX1) (N := 14) (ci := 1) (index := 21) (kf := 3) dX1_addElement_76 rfl (fun w h => List.mem_cons_of_mem _ (inX1 w h)) (by decide) (List.mem_cons_of_mem _ mw_62) (k_iload_n dX1_addElement_79 rfl (k_iast dX1_addElement_80 rfl (k_aload_n dX1_addElement_81 rfl (k_getf (C := RX1) (T := TX1) (N := 14) (ci := 1) (index := 15) (kf := 1) dX1_addElement_82 rfl (fun w h => List.mem_cons_of_mem _ (inX1 w h)) (by decide) (List.mem_cons_of_mem _ mw_58) (k_aload_n dX1_addElement_85 rfl (k_getf (C := RX1) (T := TX1) (N := 14) (ci := 1) (index := 21) (kf := 3) dX1_addElement_86 rfl (fun w h => List.mem_cons_of_mem _ (inX1 w h)) (by decide) (List.mem_cons_of_mem _ mw_62) (k_iload dX1_addElement_89 (k_ifeq dX1_addElement_91 rfl (sX1_addElement_98) (sX1_addElement_94))))))))))))
def fX1_addElement_59 : kv_D := o_putf 1 6 .boolean (o_aload 0 (o_getf 1 3 (o_const 12 (o_icge (fX1_addElement_120) (fX1_addElement_71)))))
theorem sX1_addElement_59 : SX1_addElement 59 (fX1_addElement_59) := k_putf (C := RX1) (T := TX1) (N := 14) (ci := 1) (index := 31) (kf := 6) (ty := .boolean) dX1_addElement_59 rfl (fun w h => List.mem_cons_of_mem _ (inX1 w h)) tyX1 tyX1_ok nmX1 (by decide) (List.mem_cons_of_mem _ mw_72) rfl rfl (k_aload_n dX1_addElement_62 rfl (k_getf (C := RX1) (T := TX1) (N := 14) (ci := 1) (index := 21) (kf := 3) dX1_addElement_63 rfl (fun w h => List.mem_cons_of_mem _ (inX1 w h)) (by decide) (List.mem_cons_of_mem _ mw_62) (k_bipush dX1_addElement_66 (by decide +kernel) (k_icge dX1_addElement_68 rfl (sX1_addElement_120) (sX1_addElement_71)))))
def fX1_addElement_58 : kv_D := o_const 0 ((fX1_addElement_59))
theorem sX1_addElement_58 : SX1_addElement 58 (fX1_addElement_58) := k_iconst dX1_addElement_58 (by decide +kernel) ((sX1_addElement_59))
def fX1_addElement_54 : kv_D := o_const 1 ((fX1_addElement_59))
theorem sX1_addElement_54 : SX1_addElement 54 (fX1_addElement_54) := k_iconst dX1_addElement_54 (by decide +kernel) (k_goto dX1_addElement_55 rfl (sX1_addElement_59))
def fX1_addElement_49 : kv_D := o_iload 4 (o_ifeq (fX1_addElement_58) (fX1_addElement_54))
theorem sX1_addElement_49 : SX1_addElement 49 (fX1_addElement_49) := k_iload dX1_addElement_49 (k_ifeq dX1_addElement_51 rfl (sX1_addElement_58) (sX1_addElement_54))
def fX1_addElement_45 : kv_D := o_iload 3 (o_ifne (fX1_addElement_54) (fX1_addElement_49))
theorem sX1_addElement_45 : SX1_addElement 45 (fX1_addElement_45) := k_iload_n dX1_addElement_45 rfl (k_ifne dX1_addElement_46 rfl (sX1_addElement_54) (sX1_addElement_49))
def fX1_addElement_35 : kv_D := o_istore 4 (o_aload 0 (o_aload 0 (o_getf 1 6 (o_ifne (fX1_addElement_54) (fX1_addElement_45)))))
theorem sX1_addElement_35 : SX1_addElement 35 (fX1_addElement_35) := k_istore dX1_addElement_35 (by decide) (k_aload_n dX1_addElement_37 rfl (k_aload_n dX1_addElement_38 rfl (k_getf (C := RX1) (T := TX1) (N := 14) (ci := 1) (index := 31) (kf := 6) dX1_addElement_39 rfl (fun w h => List.mem_cons_of_mem _ (inX1 w h)) (by decide) (List.mem_cons_of_mem _ mw_72) (k_ifne dX1_addElement_42 rfl (sX1_addElement_54) (sX1_addElement_45)))))
def fX1_addElement_34 : kv_D := o_const 0 ((fX1_addElement_35))
theorem sX1_addElement_34 : SX1_addElement 34 (fX1_addElement_34) := k_iconst dX1_addElement_34 (by decide +kernel) ((sX1_addElement_35))
def fX1_addElement_30 : kv_D := o_const 1 ((fX1_addElement_35))
theorem sX1_addElement_30 : SX1_addElement 30 (fX1_addElement_30) := k_iconst dX1_addElement_30 (by decide +kernel) (k_goto dX1_addElement_31 rfl (sX1_addElement_35))
def fX1_addElement_24 : kv_D := o_iload 2 (o_const 63 (o_icne (fX1_addElement_34) (fX1_addElement_30)))
theorem sX1_addElement_24 : SX1_addElement 24 (fX1_addElement_24) := k_iload_n dX1_addElement_24 rfl (k_bipush dX1_addElement_25 (by decide +kernel) (k_icne dX1_addElement_27 rfl (sX1_addElement_34) (sX1_addElement_30)))
def fX1_addElement_17 : kv_D := o_istore 3 (o_iload 2 (o_const 42 (o_iceq (fX1_addElement_30) (fX1_addElement_24))))
theorem sX1_addElement_17 : SX1_addElement 17 (fX1_addElement_17) := k_istore_n dX1_addElement_17 rfl (by decide) (k_iload_n dX1_addElement_18 rfl (k_bipush dX1_addElement_19 (by decide +kernel) (k_iceq dX1_addElement_21 rfl (sX1_addElement_30) (sX1_addElement_24))))
def fX1_addElement_16 : kv_D := o_const 0 ((fX1_addElement_17))
theorem sX1_addElement_16 : SX1_addElement 16 (fX1_addElement_16) := k_iconst dX1_addElement_16 (by decide +kernel) ((sX1_addElement_17))
def fX1_addElement_12 : kv_D := o_const 1 ((fX1_addElement_17))
theorem sX1_addElement_12 : SX1_addElement 12 (fX1_addElement_12) := k_iconst dX1_addElement_12 (by decide +kernel) (k_goto dX1_addElement_13 rfl (sX1_addElement_17))
def fX1_addElement_6 : kv_D := o_iload 2 (o_const 43 (o_icne (fX1_addElement_16) (fX1_addElement_12)))
theorem sX1_addElement_6 : SX1_addElement 6 (fX1_addElement_6) := k_iload_n dX1_addElement_6 rfl (k_bipush dX1_addElement_7 (by decide +kernel) (k_icne dX1_addElement_9 rfl (sX1_addElement_16) (sX1_addElement_12)))
def fX1_addElement_0 : kv_D := o_iload 2 (o_const 42 (o_iceq (fX1_addElement_12) (fX1_addElement_6)))
theorem sX1_addElement_0 : SX1_addElement 0 (fX1_addElement_0) := k_iload_n dX1_addElement_0 rfl (k_bipush dX1_addElement_1 (by decide +kernel) (k_iceq dX1_addElement_3 rfl (sX1_addElement_12) (sX1_addElement_6)))
def mX1_addElement : kv_M := kv_in 3 5 (fX1_addElement_0)
theorem cX1_addElement_ct : kv_CT yX1_addElement wX1_addElement 0 0 mX1_addElement := kv_met (by decide) rfl rfl (by decide) (fun h => by cases h) (sX1_addElement_0)
-- X2_readContext
def wX2_readContext : List Cond := Cond.code yX2_readContext cX2_readContext 3 (some .boolean) :: kv_tb
abbrev SX2_readContext (pc : Nat) (F : kv_D) : Prop := kv_S cX2_readContext 3 RX2 wX2_readContext (some .boolean) false 3 67 none pc F
def fX2_readContext_47 (K : Nat → kv_D) : kv_D := o_const 1 (o_iret .boolean)
theorem sX2_readContext_47 {K : Nat → kv_D} (hK : ∀ pc, SX2_readContext pc (K pc)) : SX2_readContext 47 (fX2_readContext_47 K) := k_iconst dX2_readContext_47 (by decide +kernel) (k_iret dX2_readContext_48 rfl)
theorem nX2_readContext_47 : kv_cn (fun K => fX2_readContext_47 K) := cn_const 1 (cn_c _)
def fX2_readContext_29 (K : Nat → kv_D) : kv_D := o_aload 1 (o_aload 0 (o_getf 2 4 (o_aload 0 (o_callV 2 0 mX2_readQuantifier (o_callV 1 2 mX1_addElement (o_iinc 2 1 ((K 2))))))))
theorem sX2_readContext_29 {K : Nat → kv_D} (hK : ∀ pc, SX2_readContext pc (K pc)) : SX2_readContext 29 (fX2_readContext_29 K) := k_aload_n dX2_readContext_29 rfl (k_aload_n dX2_readContext_30 rfl (k_getf (C := RX2) (T := TX2) (N := 6) (ci := 2) (index := 26) (kf := 4) dX2_readContext_31 rfl (fun w h => List.mem_cons_of_mem _ (inX2 w h)) (by decide) (List.mem_cons_of_mem _ mw_31) (k_aload_n dX2_readContext_34 rfl (k_callV (q := (RX2, TX2, 6)) dX2_readContext_35 cX2_readQuantifier_ct rfl (kv_goodV mw_247 mw_249 sel_X2_readQuantifier mw_2 mw_250) (by decide +kernel) rfl (by decide) (by decide) (k_callV (q := (RX1, TX1, 14)) dX2_readContext_38 cX1_addElement_ct rfl (kv_goodV mw_251 mw_252 mw_253 mw_3 mw_254) (by decide +kernel) rfl (by decide) (by decide) (k_iinc dX2_readContext_41 (by decide +kernel) (by decide) (k_goto dX2_readContext_44 rfl (hK 2))))))))
theorem nX2_readContext_29 : kv_cn (fun K => fX2_readContext_29 K) := cn_aload 1 (cn_aload 0 (cn_getf 2 4 (cn_aload 0 (cn_callV 2 0 mX2_readQuantifier (cn_callV 1 2 mX1_addElement (cn_iinc 2 1 ((cn_K 2))))))))
def fX2_readContext_27 (K : Nat → kv_D) : kv_D := o_const 0 (o_iret .boolean)
theorem sX2_readContext_27 {K : Nat → kv_D} (hK : ∀ pc, SX2_readContext pc (K pc)) : SX2_readContext 27 (fX2_readContext_27 K) := k_iconst dX2_readContext_27 (by decide +kernel) (k_iret dX2_readContext_28 rfl)
theorem nX2_readContext_27 : kv_cn (fun K => fX2_readContext_27 K) := cn_const 0 (cn_c _)
def fX2_readContext_20 (K : Nat → kv_D) : kv_D := o_aload 0 (o_callV 2 0 mX2_readElement (o_ifne (fX2_readContext_29 K) (fX2_readContext_27 K)))
theorem sX2_readContext_20 {K : Nat → kv_D} (hK : ∀ pc, SX2_readContext pc (K pc)) : SX2_readContext 20 (fX2_readContext_20 K) := k_aload_n dX2_readContext_20 rfl (k_callV (q := (RX2, TX2, 6)) dX2_readContext_21 cX2_readElement_ct rfl (kv_goodV mw_197 mw_199 sel_X2_readElement mw_2 mw_200) (by decide +kernel) rfl (by decide) (by decide) (k_ifne dX2_readContext_24 rfl (sX2_readContext_29 hK) (sX2_readContext_27 hK)))
theorem nX2_readContext_20 : kv_cn (fun K => fX2_readContext_20 K) := cn_aload 0 (cn_callV 2 0 mX2_readElement (cn_ifne nX2_readContext_29 nX2_readContext_27))
def fX2_readContext_10 (K : Nat → kv_D) : kv_D := o_aload 0 (o_callV 2 0 mX2_next (o_callS 1 mX2_beginsElement (o_ifeq (fX2_readContext_47 K) (fX2_readContext_20 K))))
theorem sX2_readContext_10 {K : Nat → kv_D} (hK : ∀ pc, SX2_readContext pc (K pc)) : SX2_readContext 10 (fX2_readContext_10 K) := k_aload_n dX2_readContext_10 rfl (k_callV (q := (RX2, TX2, 6)) dX2_readContext_11 cX2_next_ct rfl (kv_goodV mw_201 mw_203 sel_X2_next mw_2 mw_204) (by decide +kernel) rfl (by decide) (by decide) (k_callS dX2_readContext_14 cX2_beginsElement_ct rfl (kv_goodS mw_244 mw_245 mw_2 mw_246) (by decide +kernel) (by decide) (by decide) (k_ifeq dX2_readContext_17 rfl (sX2_readContext_47 hK) (sX2_readContext_20 hK))))
theorem nX2_readContext_10 : kv_cn (fun K => fX2_readContext_10 K) := cn_aload 0 (cn_callV 2 0 mX2_next (cn_callS 1 mX2_beginsElement (cn_ifeq nX2_readContext_47 nX2_readContext_20)))
def fX2_readContext_2 (K : Nat → kv_D) : kv_D := o_iload 2 (o_aload 0 (o_getf 2 1 (o_icge (fX2_readContext_47 K) (fX2_readContext_10 K))))
theorem sX2_readContext_2 {K : Nat → kv_D} (hK : ∀ pc, SX2_readContext pc (K pc)) : SX2_readContext 2 (fX2_readContext_2 K) := k_iload_n dX2_readContext_2 rfl (k_aload_n dX2_readContext_3 rfl (k_getf (C := RX2) (T := TX2) (N := 6) (ci := 2) (index := 15) (kf := 1) dX2_readContext_4 rfl (fun w h => List.mem_cons_of_mem _ (inX2 w h)) (by decide) (List.mem_cons_of_mem _ mw_28) (k_icge dX2_readContext_7 rfl (sX2_readContext_47 hK) (sX2_readContext_10 hK))))
theorem nX2_readContext_2 : kv_cn (fun K => fX2_readContext_2 K) := cn_iload 2 (cn_aload 0 (cn_getf 2 1 (cn_icge nX2_readContext_47 nX2_readContext_10)))
def fX2_readContext_0 (K : Nat → kv_D) : kv_D := o_const 0 (o_istore 2 ((K 2)))
theorem sX2_readContext_0 {K : Nat → kv_D} (hK : ∀ pc, SX2_readContext pc (K pc)) : SX2_readContext 0 (fX2_readContext_0 K) := k_iconst dX2_readContext_0 (by decide +kernel) (k_istore_n dX2_readContext_1 rfl (by decide) ((hK 2)))
theorem nX2_readContext_0 : kv_cn (fun K => fX2_readContext_0 K) := cn_const 0 (cn_istore 2 ((cn_K 2)))
def bX2_readContext (K : Nat → kv_D) (pc : Nat) : kv_D := if pc = 2 then fX2_readContext_2 K else fun _ _ _ _ _ => False
theorem hX2_readContext : ∀ pc, SX2_readContext pc (kv_lim (bX2_readContext) pc) := kv_lim_S (fun K hK pc => by
  unfold bX2_readContext
  by_cases q2 : pc = 2
  · rw [if_pos q2, q2]
    exact sX2_readContext_2 hK
  rw [if_neg q2]
  exact kv_none)
theorem uX2_readContext_2 {L : List (Option Value)} {st : List Value} {h : kv_H} {v : Option Value} {h' : kv_H} (hx : fX2_readContext_2 (kv_lim (bX2_readContext)) L st h v h') : kv_lim (bX2_readContext) 2 L st h v h' := kv_un (q := 2) (by have e : (fun K => bX2_readContext K 2) = fun K => fX2_readContext_2 K := (by funext K; rfl); rw [e]; exact nX2_readContext_2) (by have e : bX2_readContext (kv_lim (bX2_readContext)) 2 = fX2_readContext_2 (kv_lim (bX2_readContext)) := rfl; rw [e]; exact hx)
def mX2_readContext : kv_M := kv_in 2 3 (fX2_readContext_0 (kv_lim (bX2_readContext)))
theorem cX2_readContext_ct : kv_CT yX2_readContext wX2_readContext 3 67 mX2_readContext := kv_met (by decide) rfl rfl (by decide) (fun h => by cases h) (sX2_readContext_0 (hX2_readContext))
-- X1_addSegment
def wX1_addSegment : List Cond := Cond.code yX1_addSegment cX1_addSegment 2 none :: kv_tb
abbrev SX1_addSegment (pc : Nat) (F : kv_D) : Prop := kv_S cX1_addSegment 2 RX1 wX1_addSegment none false 0 0 none pc F
def fX1_addSegment_31 : kv_D := o_aload 0 (o_dup (o_getf 1 9 (o_const 1 (o_iadd (o_putf 1 9 .int (o_ret))))))
theorem sX1_addSegment_31 : SX1_addSegment 31 (fX1_addSegment_31) := k_aload_n dX1_addSegment_31 rfl (k_dup dX1_addSegment_32 (k_getf (C := RX1) (T := TX1) (N := 14) (ci := 1) (index := 41) (kf := 9) dX1_addSegment_33 rfl (fun w h => List.mem_cons_of_mem _ (inX1 w h)) (by decide) (List.mem_cons_of_mem _ mw_77) (k_iconst dX1_addSegment_36 (by decide +kernel) (k_iadd dX1_addSegment_37 (k_putf (C := RX1) (T := TX1) (N := 14) (ci := 1) (index := 41) (kf := 9) (ty := .int) dX1_addSegment_38 rfl (fun w h => List.mem_cons_of_mem _ (inX1 w h)) tyX1 tyX1_ok nmX1 (by decide) (List.mem_cons_of_mem _ mw_77) rfl rfl (k_ret dX1_addSegment_41 rfl))))))
def fX1_addSegment_8 : kv_D := o_aload 0 (o_getf 1 7 (o_aload 0 (o_getf 1 9 (o_iload 1 (o_iast 0 (fun x => x) (o_aload 0 (o_getf 1 8 (o_aload 0 (o_getf 1 9 (o_aload 0 (o_getf 1 3 (o_iast 0 (fun x => x) ((fX1_addSegment_31))))))))))))))
theorem sX1_addSegment_8 : SX1_addSegment 8 (fX1_addSegment_8) := k_aload_n dX1_addSegment_8 rfl (k_getf (C := RX1) (T := TX1) (N := 14) (ci := 1) (index := 35) (kf := 7) dX1_addSegment_9 rfl (fun w h => List.mem_cons_of_mem _ (inX1 w h)) (by decide) (List.mem_cons_of_mem _ mw_73) (k_aload_n dX1_addSegment_12 rfl (k_getf (C := RX1) (T := TX1) (N := 14) (ci := 1) (index := 41) (kf := 9) dX1_addSegment_13 rfl (fun w h => List.mem_cons_of_mem _ (inX1 w h)) (by decide) (List.mem_cons_of_mem _ mw_77) (k_iload_n dX1_addSegment_16 rfl (k_iast dX1_addSegment_17 rfl (k_aload_n dX1_addSegment_18 rfl (k_getf (C := RX1) (T := TX1) (N := 14) (ci := 1) (index := 38) (kf := 8) dX1_addSegment_19 rfl (fun w h => List.mem_cons_of_mem _ (inX1 w h)) (by decide) (List.mem_cons_of_mem _ mw_75) (k_aload_n dX1_addSegment_22 rfl (k_getf (C := RX1) (T := TX1) (N := 14) (ci := 1) (index := 41) (kf := 9) dX1_addSegment_23 rfl (fun w h => List.mem_cons_of_mem _ (inX1 w h)) (by decide) (List.mem_cons_of_mem _ mw_77) (k_aload_n dX1_addSegment_26 rfl (k_getf (C := RX1) (T := TX1) (N := 14) (ci := 1) (index := 21) (kf := 3) dX1_addSegment_27 rfl (fun w h => List.mem_cons_of_mem _ (inX1 w h)) (by decide) (List.mem_cons_of_mem _ mw_62) (k_iast dX1_addSegment_30 rfl ((sX1_addSegment_31))))))))))))))
def fX1_addSegment_0 : kv_D := o_aload 0 (o_getf 1 9 (o_const 3 (o_icge (fX1_addSegment_31) (fX1_addSegment_8))))
theorem sX1_addSegment_0 : SX1_addSegment 0 (fX1_addSegment_0) := k_aload_n dX1_addSegment_0 rfl (k_getf (C := RX1) (T := TX1) (N := 14) (ci := 1) (index := 41) (kf := 9) dX1_addSegment_1 rfl (fun w h => List.mem_cons_of_mem _ (inX1 w h)) (by decide) (List.mem_cons_of_mem _ mw_77) (k_iconst dX1_addSegment_4 (by decide +kernel) (k_icge dX1_addSegment_5 rfl (sX1_addSegment_31) (sX1_addSegment_8))))
def mX1_addSegment : kv_M := kv_in 2 2 (fX1_addSegment_0)
theorem cX1_addSegment_ct : kv_CT yX1_addSegment wX1_addSegment 0 0 mX1_addSegment := kv_met (by decide) rfl rfl (by decide) (fun h => by cases h) (sX1_addSegment_0)
-- X2_readKey
def wX2_readKey : List Cond := Cond.code yX2_readKey cX2_readKey 5 (some .boolean) :: kv_tb
abbrev SX2_readKey (pc : Nat) (F : kv_D) : Prop := kv_S cX2_readKey 5 RX2 wX2_readKey (some .boolean) false 3 67 none pc F
def fX2_readKey_133 (K : Nat → kv_D) : kv_D := o_iret .boolean
theorem sX2_readKey_133 {K : Nat → kv_D} (hK : ∀ pc, SX2_readKey pc (K pc)) : SX2_readKey 133 (fX2_readKey_133 K) := k_iret dX2_readKey_133 rfl
theorem nX2_readKey_133 : kv_cn (fun K => fX2_readKey_133 K) := cn_c _
def fX2_readKey_132 (K : Nat → kv_D) : kv_D := o_const 0 ((fX2_readKey_133 K))
theorem sX2_readKey_132 {K : Nat → kv_D} (hK : ∀ pc, SX2_readKey pc (K pc)) : SX2_readKey 132 (fX2_readKey_132 K) := k_iconst dX2_readKey_132 (by decide +kernel) ((sX2_readKey_133 hK))
theorem nX2_readKey_132 : kv_cn (fun K => fX2_readKey_132 K) := cn_const 0 (nX2_readKey_133)
def fX2_readKey_128 (K : Nat → kv_D) : kv_D := o_const 1 ((fX2_readKey_133 K))
theorem sX2_readKey_128 {K : Nat → kv_D} (hK : ∀ pc, SX2_readKey pc (K pc)) : SX2_readKey 128 (fX2_readKey_128 K) := k_iconst dX2_readKey_128 (by decide +kernel) (k_goto dX2_readKey_129 rfl (sX2_readKey_133 hK))
theorem nX2_readKey_128 : kv_cn (fun K => fX2_readKey_128 K) := cn_const 1 (nX2_readKey_133)
def fX2_readKey_117 (K : Nat → kv_D) : kv_D := o_aload 1 (o_getf 1 3 (o_aload 1 (o_getf 1 4 (o_icle (fX2_readKey_132 K) (fX2_readKey_128 K)))))
theorem sX2_readKey_117 {K : Nat → kv_D} (hK : ∀ pc, SX2_readKey pc (K pc)) : SX2_readKey 117 (fX2_readKey_117 K) := k_aload_n dX2_readKey_117 rfl (k_getN (C := RX1) (T := TX1) (N := 14) (ci := 1) (index := 54) (kf := 3) dX2_readKey_118 rfl (fun w h => List.mem_cons_of_mem _ (inX1 w h)) (by decide) mw_64 (k_aload_n dX2_readKey_121 rfl (k_getN (C := RX1) (T := TX1) (N := 14) (ci := 1) (index := 59) (kf := 4) dX2_readKey_122 rfl (fun w h => List.mem_cons_of_mem _ (inX1 w h)) (by decide) mw_67 (k_icle dX2_readKey_125 rfl (sX2_readKey_132 hK) (sX2_readKey_128 hK)))))
theorem nX2_readKey_117 : kv_cn (fun K => fX2_readKey_117 K) := cn_aload 1 (cn_getf 1 3 (cn_aload 1 (cn_getf 1 4 (cn_icle nX2_readKey_132 nX2_readKey_128))))
def fX2_readKey_113 (K : Nat → kv_D) : kv_D := o_iload 2 (o_ifne (fX2_readKey_132 K) (fX2_readKey_117 K))
theorem sX2_readKey_113 {K : Nat → kv_D} (hK : ∀ pc, SX2_readKey pc (K pc)) : SX2_readKey 113 (fX2_readKey_113 K) := k_iload_n dX2_readKey_113 rfl (k_ifne dX2_readKey_114 rfl (sX2_readKey_132 hK) (sX2_readKey_117 hK))
theorem nX2_readKey_113 : kv_cn (fun K => fX2_readKey_113 K) := cn_iload 2 (cn_ifne nX2_readKey_132 nX2_readKey_117)
def fX2_readKey_107 (K : Nat → kv_D) : kv_D := o_iinc 4 1 ((K 10))
theorem sX2_readKey_107 {K : Nat → kv_D} (hK : ∀ pc, SX2_readKey pc (K pc)) : SX2_readKey 107 (fX2_readKey_107 K) := k_iinc dX2_readKey_107 (by decide +kernel) (by decide) (k_goto dX2_readKey_110 rfl (hK 10))
theorem nX2_readKey_107 : kv_cn (fun K => fX2_readKey_107 K) := cn_iinc 4 1 ((cn_K 10))
def fX2_readKey_95 (K : Nat → kv_D) : kv_D := o_aload 1 (o_aload 0 (o_getf 2 4 (o_aload 0 (o_callV 2 0 mX2_readQuantifier (o_callV 1 2 mX1_addElement ((fX2_readKey_107 K)))))))
theorem sX2_readKey_95 {K : Nat → kv_D} (hK : ∀ pc, SX2_readKey pc (K pc)) : SX2_readKey 95 (fX2_readKey_95 K) := k_aload_n dX2_readKey_95 rfl (k_aload_n dX2_readKey_96 rfl (k_getf (C := RX2) (T := TX2) (N := 6) (ci := 2) (index := 26) (kf := 4) dX2_readKey_97 rfl (fun w h => List.mem_cons_of_mem _ (inX2 w h)) (by decide) (List.mem_cons_of_mem _ mw_31) (k_aload_n dX2_readKey_100 rfl (k_callV (q := (RX2, TX2, 6)) dX2_readKey_101 cX2_readQuantifier_ct rfl (kv_goodV mw_247 mw_249 sel_X2_readQuantifier mw_2 mw_250) (by decide +kernel) rfl (by decide) (by decide) (k_callV (q := (RX1, TX1, 14)) dX2_readKey_104 cX1_addElement_ct rfl (kv_goodV mw_251 mw_252 mw_253 mw_3 mw_254) (by decide +kernel) rfl (by decide) (by decide) ((sX2_readKey_107 hK)))))))
theorem nX2_readKey_95 : kv_cn (fun K => fX2_readKey_95 K) := cn_aload 1 (cn_aload 0 (cn_getf 2 4 (cn_aload 0 (cn_callV 2 0 mX2_readQuantifier (cn_callV 1 2 mX1_addElement (nX2_readKey_107))))))
def fX2_readKey_93 (K : Nat → kv_D) : kv_D := o_const 0 (o_iret .boolean)
theorem sX2_readKey_93 {K : Nat → kv_D} (hK : ∀ pc, SX2_readKey pc (K pc)) : SX2_readKey 93 (fX2_readKey_93 K) := k_iconst dX2_readKey_93 (by decide +kernel) (k_iret dX2_readKey_94 rfl)
theorem nX2_readKey_93 : kv_cn (fun K => fX2_readKey_93 K) := cn_const 0 (cn_c _)
def fX2_readKey_86 (K : Nat → kv_D) : kv_D := o_aload 0 (o_callV 2 0 mX2_readElement (o_ifne (fX2_readKey_95 K) (fX2_readKey_93 K)))
theorem sX2_readKey_86 {K : Nat → kv_D} (hK : ∀ pc, SX2_readKey pc (K pc)) : SX2_readKey 86 (fX2_readKey_86 K) := k_aload_n dX2_readKey_86 rfl (k_callV (q := (RX2, TX2, 6)) dX2_readKey_87 cX2_readElement_ct rfl (kv_goodV mw_197 mw_199 sel_X2_readElement mw_2 mw_200) (by decide +kernel) rfl (by decide) (by decide) (k_ifne dX2_readKey_90 rfl (sX2_readKey_95 hK) (sX2_readKey_93 hK)))
theorem nX2_readKey_86 : kv_cn (fun K => fX2_readKey_86 K) := cn_aload 0 (cn_callV 2 0 mX2_readElement (cn_ifne nX2_readKey_95 nX2_readKey_93))
def fX2_readKey_83 (K : Nat → kv_D) : kv_D := (fX2_readKey_113 K)
theorem sX2_readKey_83 {K : Nat → kv_D} (hK : ∀ pc, SX2_readKey pc (K pc)) : SX2_readKey 83 (fX2_readKey_83 K) := k_goto dX2_readKey_83 rfl (sX2_readKey_113 hK)
theorem nX2_readKey_83 : kv_cn (fun K => fX2_readKey_83 K) := nX2_readKey_113
def fX2_readKey_73 (K : Nat → kv_D) : kv_D := o_aload 0 (o_callV 2 0 mX2_next (o_callS 1 mX2_beginsElement (o_ifne (fX2_readKey_86 K) (fX2_readKey_83 K))))
theorem sX2_readKey_73 {K : Nat → kv_D} (hK : ∀ pc, SX2_readKey pc (K pc)) : SX2_readKey 73 (fX2_readKey_73 K) := k_aload_n dX2_readKey_73 rfl (k_callV (q := (RX2, TX2, 6)) dX2_readKey_74 cX2_next_ct rfl (kv_goodV mw_201 mw_203 sel_X2_next mw_2 mw_204) (by decide +kernel) rfl (by decide) (by decide) (k_callS dX2_readKey_77 cX2_beginsElement_ct rfl (kv_goodS mw_244 mw_245 mw_2 mw_246) (by decide +kernel) (by decide) (by decide) (k_ifne dX2_readKey_80 rfl (sX2_readKey_86 hK) (sX2_readKey_83 hK))))
theorem nX2_readKey_73 : kv_cn (fun K => fX2_readKey_73 K) := cn_aload 0 (cn_callV 2 0 mX2_next (cn_callS 1 mX2_beginsElement (cn_ifne nX2_readKey_86 nX2_readKey_83)))
def fX2_readKey_63 (K : Nat → kv_D) : kv_D := o_const 0 (o_istore 2 (o_aload 1 (o_iload 3 (o_callV 1 1 mX1_addSegment ((fX2_readKey_107 K))))))
theorem sX2_readKey_63 {K : Nat → kv_D} (hK : ∀ pc, SX2_readKey pc (K pc)) : SX2_readKey 63 (fX2_readKey_63 K) := k_iconst dX2_readKey_63 (by decide +kernel) (k_istore_n dX2_readKey_64 rfl (by decide) (k_aload_n dX2_readKey_65 rfl (k_iload_n dX2_readKey_66 rfl (k_callV (q := (RX1, TX1, 14)) dX2_readKey_67 cX1_addSegment_ct rfl (kv_goodV mw_259 mw_260 mw_261 mw_3 mw_262) (by decide +kernel) rfl (by decide) (by decide) (k_goto dX2_readKey_70 rfl (sX2_readKey_107 hK))))))
theorem nX2_readKey_63 : kv_cn (fun K => fX2_readKey_63 K) := cn_const 0 (cn_istore 2 (cn_aload 1 (cn_iload 3 (cn_callV 1 1 mX1_addSegment (nX2_readKey_107)))))
def fX2_readKey_54 (K : Nat → kv_D) : kv_D := o_aload 0 (o_const 41 (o_callV 2 1 mX2_skip (o_ifeq (fX2_readKey_73 K) (fX2_readKey_63 K))))
theorem sX2_readKey_54 {K : Nat → kv_D} (hK : ∀ pc, SX2_readKey pc (K pc)) : SX2_readKey 54 (fX2_readKey_54 K) := k_aload_n dX2_readKey_54 rfl (k_bipush dX2_readKey_55 (by decide +kernel) (k_callV (q := (RX2, TX2, 6)) dX2_readKey_57 cX2_skip_ct rfl (kv_goodV mw_216 mw_218 sel_X2_skip mw_2 mw_219) (by decide +kernel) rfl (by decide) (by decide) (k_ifeq dX2_readKey_60 rfl (sX2_readKey_73 hK) (sX2_readKey_63 hK))))
theorem nX2_readKey_54 : kv_cn (fun K => fX2_readKey_54 K) := cn_aload 0 (cn_const 41 (cn_callV 2 1 mX2_skip (cn_ifeq nX2_readKey_73 nX2_readKey_63)))
def fX2_readKey_46 (K : Nat → kv_D) : kv_D := o_aload 1 (o_getf 1 3 (o_iload 3 (o_icle (fX2_readKey_73 K) (fX2_readKey_54 K))))
theorem sX2_readKey_46 {K : Nat → kv_D} (hK : ∀ pc, SX2_readKey pc (K pc)) : SX2_readKey 46 (fX2_readKey_46 K) := k_aload_n dX2_readKey_46 rfl (k_getN (C := RX1) (T := TX1) (N := 14) (ci := 1) (index := 54) (kf := 3) dX2_readKey_47 rfl (fun w h => List.mem_cons_of_mem _ (inX1 w h)) (by decide) mw_64 (k_iload_n dX2_readKey_50 rfl (k_icle dX2_readKey_51 rfl (sX2_readKey_73 hK) (sX2_readKey_54 hK))))
theorem nX2_readKey_46 : kv_cn (fun K => fX2_readKey_46 K) := cn_aload 1 (cn_getf 1 3 (cn_iload 3 (cn_icle nX2_readKey_73 nX2_readKey_54)))
def fX2_readKey_42 (K : Nat → kv_D) : kv_D := o_iload 2 (o_ifeq (fX2_readKey_73 K) (fX2_readKey_46 K))
theorem sX2_readKey_42 {K : Nat → kv_D} (hK : ∀ pc, SX2_readKey pc (K pc)) : SX2_readKey 42 (fX2_readKey_42 K) := k_iload_n dX2_readKey_42 rfl (k_ifeq dX2_readKey_43 rfl (sX2_readKey_73 hK) (sX2_readKey_46 hK))
theorem nX2_readKey_42 : kv_cn (fun K => fX2_readKey_42 K) := cn_iload 2 (cn_ifeq nX2_readKey_73 nX2_readKey_46)
def fX2_readKey_32 (K : Nat → kv_D) : kv_D := o_const 1 (o_istore 2 (o_aload 1 (o_getf 1 3 (o_istore 3 ((fX2_readKey_107 K))))))
theorem sX2_readKey_32 {K : Nat → kv_D} (hK : ∀ pc, SX2_readKey pc (K pc)) : SX2_readKey 32 (fX2_readKey_32 K) := k_iconst dX2_readKey_32 (by decide +kernel) (k_istore_n dX2_readKey_33 rfl (by decide) (k_aload_n dX2_readKey_34 rfl (k_getN (C := RX1) (T := TX1) (N := 14) (ci := 1) (index := 54) (kf := 3) dX2_readKey_35 rfl (fun w h => List.mem_cons_of_mem _ (inX1 w h)) (by decide) mw_64 (k_istore_n dX2_readKey_38 rfl (by decide) (k_goto dX2_readKey_39 rfl (sX2_readKey_107 hK))))))
theorem nX2_readKey_32 : kv_cn (fun K => fX2_readKey_32 K) := cn_const 1 (cn_istore 2 (cn_aload 1 (cn_getf 1 3 (cn_istore 3 (nX2_readKey_107)))))
def fX2_readKey_23 (K : Nat → kv_D) : kv_D := o_aload 0 (o_const 40 (o_callV 2 1 mX2_skip (o_ifeq (fX2_readKey_42 K) (fX2_readKey_32 K))))
theorem sX2_readKey_23 {K : Nat → kv_D} (hK : ∀ pc, SX2_readKey pc (K pc)) : SX2_readKey 23 (fX2_readKey_23 K) := k_aload_n dX2_readKey_23 rfl (k_bipush dX2_readKey_24 (by decide +kernel) (k_callV (q := (RX2, TX2, 6)) dX2_readKey_26 cX2_skip_ct rfl (kv_goodV mw_216 mw_218 sel_X2_skip mw_2 mw_219) (by decide +kernel) rfl (by decide) (by decide) (k_ifeq dX2_readKey_29 rfl (sX2_readKey_42 hK) (sX2_readKey_32 hK))))
theorem nX2_readKey_23 : kv_cn (fun K => fX2_readKey_23 K) := cn_aload 0 (cn_const 40 (cn_callV 2 1 mX2_skip (cn_ifeq nX2_readKey_42 nX2_readKey_32)))
def fX2_readKey_19 (K : Nat → kv_D) : kv_D := o_iload 2 (o_ifne (fX2_readKey_42 K) (fX2_readKey_23 K))
theorem sX2_readKey_19 {K : Nat → kv_D} (hK : ∀ pc, SX2_readKey pc (K pc)) : SX2_readKey 19 (fX2_readKey_19 K) := k_iload_n dX2_readKey_19 rfl (k_ifne dX2_readKey_20 rfl (sX2_readKey_42 hK) (sX2_readKey_23 hK))
theorem nX2_readKey_19 : kv_cn (fun K => fX2_readKey_19 K) := cn_iload 2 (cn_ifne nX2_readKey_42 nX2_readKey_23)
def fX2_readKey_10 (K : Nat → kv_D) : kv_D := o_iload 4 (o_aload 0 (o_getf 2 1 (o_icge (fX2_readKey_113 K) (fX2_readKey_19 K))))
theorem sX2_readKey_10 {K : Nat → kv_D} (hK : ∀ pc, SX2_readKey pc (K pc)) : SX2_readKey 10 (fX2_readKey_10 K) := k_iload dX2_readKey_10 (k_aload_n dX2_readKey_12 rfl (k_getf (C := RX2) (T := TX2) (N := 6) (ci := 2) (index := 15) (kf := 1) dX2_readKey_13 rfl (fun w h => List.mem_cons_of_mem _ (inX2 w h)) (by decide) (List.mem_cons_of_mem _ mw_28) (k_icge dX2_readKey_16 rfl (sX2_readKey_113 hK) (sX2_readKey_19 hK))))
theorem nX2_readKey_10 : kv_cn (fun K => fX2_readKey_10 K) := cn_iload 4 (cn_aload 0 (cn_getf 2 1 (cn_icge nX2_readKey_113 nX2_readKey_19)))
def fX2_readKey_0 (K : Nat → kv_D) : kv_D := o_const 0 (o_istore 2 (o_aload 1 (o_getf 1 3 (o_istore 3 (o_const 0 (o_istore 4 ((K 10))))))))
theorem sX2_readKey_0 {K : Nat → kv_D} (hK : ∀ pc, SX2_readKey pc (K pc)) : SX2_readKey 0 (fX2_readKey_0 K) := k_iconst dX2_readKey_0 (by decide +kernel) (k_istore_n dX2_readKey_1 rfl (by decide) (k_aload_n dX2_readKey_2 rfl (k_getN (C := RX1) (T := TX1) (N := 14) (ci := 1) (index := 54) (kf := 3) dX2_readKey_3 rfl (fun w h => List.mem_cons_of_mem _ (inX1 w h)) (by decide) mw_64 (k_istore_n dX2_readKey_6 rfl (by decide) (k_iconst dX2_readKey_7 (by decide +kernel) (k_istore dX2_readKey_8 (by decide) ((hK 10))))))))
theorem nX2_readKey_0 : kv_cn (fun K => fX2_readKey_0 K) := cn_const 0 (cn_istore 2 (cn_aload 1 (cn_getf 1 3 (cn_istore 3 (cn_const 0 (cn_istore 4 ((cn_K 10))))))))
def bX2_readKey (K : Nat → kv_D) (pc : Nat) : kv_D := if pc = 10 then fX2_readKey_10 K else fun _ _ _ _ _ => False
theorem hX2_readKey : ∀ pc, SX2_readKey pc (kv_lim (bX2_readKey) pc) := kv_lim_S (fun K hK pc => by
  unfold bX2_readKey
  by_cases q10 : pc = 10
  · rw [if_pos q10, q10]
    exact sX2_readKey_10 hK
  rw [if_neg q10]
  exact kv_none)
theorem uX2_readKey_10 {L : List (Option Value)} {st : List Value} {h : kv_H} {v : Option Value} {h' : kv_H} (hx : fX2_readKey_10 (kv_lim (bX2_readKey)) L st h v h') : kv_lim (bX2_readKey) 10 L st h v h' := kv_un (q := 10) (by have e : (fun K => bX2_readKey K 10) = fun K => fX2_readKey_10 K := (by funext K; rfl); rw [e]; exact nX2_readKey_10) (by have e : bX2_readKey (kv_lim (bX2_readKey)) 10 = fX2_readKey_10 (kv_lim (bX2_readKey)) := rfl; rw [e]; exact hx)
def mX2_readKey : kv_M := kv_in 2 5 (fX2_readKey_0 (kv_lim (bX2_readKey)))
theorem cX2_readKey_ct : kv_CT yX2_readKey wX2_readKey 3 67 mX2_readKey := kv_met (by decide) rfl rfl (by decide) (fun h => by cases h) (sX2_readKey_0 (hX2_readKey))
-- X1_addPiece
def wX1_addPiece : List Cond := Cond.code yX1_addPiece cX1_addPiece 2 none :: kv_tb
abbrev SX1_addPiece (pc : Nat) (F : kv_D) : Prop := kv_S cX1_addPiece 2 RX1 wX1_addPiece none false 1 21 none pc F
def fX1_addPiece_51 : kv_D := o_ret
theorem sX1_addPiece_51 : SX1_addPiece 51 (fX1_addPiece_51) := k_ret dX1_addPiece_51 rfl
def fX1_addPiece_36 : kv_D := o_aload 0 (o_aload 0 (o_getf 1 12 (o_iload 1 (o_const 48 (o_isub (o_max (o_putf 1 12 .int ((fX1_addPiece_51)))))))))
theorem sX1_addPiece_36 : SX1_addPiece 36 (fX1_addPiece_36) := k_aload_n dX1_addPiece_36 rfl (k_aload_n dX1_addPiece_37 rfl (k_getf (C := RX1) (T := TX1) (N := 14) (ci := 1) (index := 51) (kf := 12) dX1_addPiece_38 rfl (fun w h => List.mem_cons_of_mem _ (inX1 w h)) (by decide) (List.mem_cons_of_mem _ mw_84) (k_iload_n dX1_addPiece_41 rfl (k_bipush dX1_addPiece_42 (by decide +kernel) (k_isub dX1_addPiece_44 (k_max dX1_addPiece_45 (List.mem_cons_of_mem _ mw_272) (List.mem_cons_of_mem _ mw_273) (List.mem_cons_of_mem _ mw_7) (List.mem_cons_of_mem _ mw_274) (by decide) (by decide) (k_putf (C := RX1) (T := TX1) (N := 14) (ci := 1) (index := 51) (kf := 12) (ty := .int) dX1_addPiece_48 rfl (fun w h => List.mem_cons_of_mem _ (inX1 w h)) tyX1 tyX1_ok nmX1 (by decide) (List.mem_cons_of_mem _ mw_84) rfl rfl ((sX1_addPiece_51)))))))))
def fX1_addPiece_19 : kv_D := o_aload 0 (o_dup (o_getf 1 11 (o_const 1 (o_iadd (o_putf 1 11 .int (o_iload 1 (o_callS 1 mX4_isSmall (o_ifne (fX1_addPiece_51) (fX1_addPiece_36)))))))))
theorem sX1_addPiece_19 : SX1_addPiece 19 (fX1_addPiece_19) := k_aload_n dX1_addPiece_19 rfl (k_dup dX1_addPiece_20 (k_getf (C := RX1) (T := TX1) (N := 14) (ci := 1) (index := 48) (kf := 11) dX1_addPiece_21 rfl (fun w h => List.mem_cons_of_mem _ (inX1 w h)) (by decide) (List.mem_cons_of_mem _ mw_81) (k_iconst dX1_addPiece_24 (by decide +kernel) (k_iadd dX1_addPiece_25 (k_putf (C := RX1) (T := TX1) (N := 14) (ci := 1) (index := 48) (kf := 11) (ty := .int) dX1_addPiece_26 rfl (fun w h => List.mem_cons_of_mem _ (inX1 w h)) tyX1 tyX1_ok nmX1 (by decide) (List.mem_cons_of_mem _ mw_81) rfl rfl (k_iload_n dX1_addPiece_29 rfl (k_callSN dX1_addPiece_30 cX4_isSmall_ct rfl (kv_goodC mw_207) mw_271 (List.mem_cons_of_mem _ mw_1) (List.mem_cons_of_mem _ mw_206) (by decide +kernel) (by decide) (by decide) (k_ifne dX1_addPiece_33 rfl (sX1_addPiece_51) (sX1_addPiece_36)))))))))
def fX1_addPiece_9 : kv_D := o_aload 0 (o_getf 1 10 (o_aload 0 (o_getf 1 11 (o_iload 1 (o_iast 1 (vp_nar .char) ((fX1_addPiece_19)))))))
theorem sX1_addPiece_9 : SX1_addPiece 9 (fX1_addPiece_9) := k_aload_n dX1_addPiece_9 rfl (k_getf (C := RX1) (T := TX1) (N := 14) (ci := 1) (index := 44) (kf := 10) dX1_addPiece_10 rfl (fun w h => List.mem_cons_of_mem _ (inX1 w h)) (by decide) (List.mem_cons_of_mem _ mw_79) (k_aload_n dX1_addPiece_13 rfl (k_getf (C := RX1) (T := TX1) (N := 14) (ci := 1) (index := 48) (kf := 11) dX1_addPiece_14 rfl (fun w h => List.mem_cons_of_mem _ (inX1 w h)) (by decide) (List.mem_cons_of_mem _ mw_81) (k_iload_n dX1_addPiece_17 rfl (k_cast dX1_addPiece_18 rfl ((sX1_addPiece_19)))))))
def fX1_addPiece_0 : kv_D := o_aload 0 (o_getf 1 11 (o_const 12 (o_icge (fX1_addPiece_19) (fX1_addPiece_9))))
theorem sX1_addPiece_0 : SX1_addPiece 0 (fX1_addPiece_0) := k_aload_n dX1_addPiece_0 rfl (k_getf (C := RX1) (T := TX1) (N := 14) (ci := 1) (index := 48) (kf := 11) dX1_addPiece_1 rfl (fun w h => List.mem_cons_of_mem _ (inX1 w h)) (by decide) (List.mem_cons_of_mem _ mw_81) (k_bipush dX1_addPiece_4 (by decide +kernel) (k_icge dX1_addPiece_6 rfl (sX1_addPiece_19) (sX1_addPiece_9))))
def mX1_addPiece : kv_M := kv_in 2 2 (fX1_addPiece_0)
theorem cX1_addPiece_ct : kv_CT yX1_addPiece wX1_addPiece 1 21 mX1_addPiece := kv_met (by decide) rfl rfl (by decide) (fun h => by cases h) (sX1_addPiece_0)
-- X2_readReplacement
def wX2_readReplacement : List Cond := Cond.code yX2_readReplacement cX2_readReplacement 4 (some .boolean) :: kv_tb
abbrev SX2_readReplacement (pc : Nat) (F : kv_D) : Prop := kv_S cX2_readReplacement 4 RX2 wX2_readReplacement (some .boolean) false 2 42 none pc F
def fX2_readReplacement_100 (K : Nat → kv_D) : kv_D := o_const 1 (o_iret .boolean)
theorem sX2_readReplacement_100 {K : Nat → kv_D} (hK : ∀ pc, SX2_readReplacement pc (K pc)) : SX2_readReplacement 100 (fX2_readReplacement_100 K) := k_iconst dX2_readReplacement_100 (by decide +kernel) (k_iret dX2_readReplacement_101 rfl)
theorem nX2_readReplacement_100 : kv_cn (fun K => fX2_readReplacement_100 K) := cn_const 1 (cn_c _)
def fX2_readReplacement_92 (K : Nat → kv_D) : kv_D := o_aload 1 (o_aload 1 (o_getf 1 11 (o_putf 1 13 .int ((fX2_readReplacement_100 K)))))
theorem sX2_readReplacement_92 {K : Nat → kv_D} (hK : ∀ pc, SX2_readReplacement pc (K pc)) : SX2_readReplacement 92 (fX2_readReplacement_92 K) := k_aload_n dX2_readReplacement_92 rfl (k_aload_n dX2_readReplacement_93 rfl (k_getN (C := RX1) (T := TX1) (N := 14) (ci := 1) (index := 89) (kf := 11) dX2_readReplacement_94 rfl (fun w h => List.mem_cons_of_mem _ (inX1 w h)) (by decide) mw_83 (k_putN (C := RX1) (T := TX1) (N := 14) (ci := 1) (index := 92) (kf := 13) (ty := .int) dX2_readReplacement_97 rfl (fun w h => List.mem_cons_of_mem _ (inX1 w h)) tyX1 tyX1_ok nmX1 (by decide) mw_88 rfl rfl ((sX2_readReplacement_100 hK)))))
theorem nX2_readReplacement_92 : kv_cn (fun K => fX2_readReplacement_92 K) := cn_aload 1 (cn_aload 1 (cn_getf 1 11 (cn_putf 1 13 .int (nX2_readReplacement_100))))
def fX2_readReplacement_88 (K : Nat → kv_D) : kv_D := o_iload 2 (o_ifne (fX2_readReplacement_100 K) (fX2_readReplacement_92 K))
theorem sX2_readReplacement_88 {K : Nat → kv_D} (hK : ∀ pc, SX2_readReplacement pc (K pc)) : SX2_readReplacement 88 (fX2_readReplacement_88 K) := k_iload_n dX2_readReplacement_88 rfl (k_ifne dX2_readReplacement_89 rfl (sX2_readReplacement_100 hK) (sX2_readReplacement_92 hK))
theorem nX2_readReplacement_88 : kv_cn (fun K => fX2_readReplacement_88 K) := cn_iload 2 (cn_ifne nX2_readReplacement_100 nX2_readReplacement_92)
def fX2_readReplacement_75 (K : Nat → kv_D) : kv_D := o_aload 0 (o_dup (o_getf 2 2 (o_const 1 (o_iadd (o_putf 2 2 .int ((K 2)))))))
theorem sX2_readReplacement_75 {K : Nat → kv_D} (hK : ∀ pc, SX2_readReplacement pc (K pc)) : SX2_readReplacement 75 (fX2_readReplacement_75 K) := k_aload_n dX2_readReplacement_75 rfl (k_dup dX2_readReplacement_76 (k_getf (C := RX2) (T := TX2) (N := 6) (ci := 2) (index := 19) (kf := 2) dX2_readReplacement_77 rfl (fun w h => List.mem_cons_of_mem _ (inX2 w h)) (by decide) (List.mem_cons_of_mem _ mw_29) (k_iconst dX2_readReplacement_80 (by decide +kernel) (k_iadd dX2_readReplacement_81 (k_putf (C := RX2) (T := TX2) (N := 6) (ci := 2) (index := 19) (kf := 2) (ty := .int) dX2_readReplacement_82 rfl (fun w h => List.mem_cons_of_mem _ (inX2 w h)) tyX2 tyX2_ok nmX2 (by decide) (List.mem_cons_of_mem _ mw_29) rfl rfl (k_goto dX2_readReplacement_85 rfl (hK 2)))))))
theorem nX2_readReplacement_75 : kv_cn (fun K => fX2_readReplacement_75 K) := cn_aload 0 (cn_dup (cn_getf 2 2 (cn_const 1 (cn_iadd (cn_putf 2 2 .int ((cn_K 2)))))))
def fX2_readReplacement_73 (K : Nat → kv_D) : kv_D := o_const 0 (o_iret .boolean)
theorem sX2_readReplacement_73 {K : Nat → kv_D} (hK : ∀ pc, SX2_readReplacement pc (K pc)) : SX2_readReplacement 73 (fX2_readReplacement_73 K) := k_iconst dX2_readReplacement_73 (by decide +kernel) (k_iret dX2_readReplacement_74 rfl)
theorem nX2_readReplacement_73 : kv_cn (fun K => fX2_readReplacement_73 K) := cn_const 0 (cn_c _)
def fX2_readReplacement_65 (K : Nat → kv_D) : kv_D := o_aload 1 (o_iload 3 (o_callV 1 1 mX1_addPiece ((fX2_readReplacement_75 K))))
theorem sX2_readReplacement_65 {K : Nat → kv_D} (hK : ∀ pc, SX2_readReplacement pc (K pc)) : SX2_readReplacement 65 (fX2_readReplacement_65 K) := k_aload_n dX2_readReplacement_65 rfl (k_iload_n dX2_readReplacement_66 rfl (k_callV (q := (RX1, TX1, 14)) dX2_readReplacement_67 cX1_addPiece_ct rfl (kv_goodV mw_267 mw_268 mw_269 mw_3 mw_270) (by decide +kernel) rfl (by decide) (by decide) (k_goto dX2_readReplacement_70 rfl (sX2_readReplacement_75 hK))))
theorem nX2_readReplacement_65 : kv_cn (fun K => fX2_readReplacement_65 K) := cn_aload 1 (cn_iload 3 (cn_callV 1 1 mX1_addPiece (nX2_readReplacement_75)))
def fX2_readReplacement_59 (K : Nat → kv_D) : kv_D := o_iload 3 (o_const 51 (o_icgt (fX2_readReplacement_73 K) (fX2_readReplacement_65 K)))
theorem sX2_readReplacement_59 {K : Nat → kv_D} (hK : ∀ pc, SX2_readReplacement pc (K pc)) : SX2_readReplacement 59 (fX2_readReplacement_59 K) := k_iload_n dX2_readReplacement_59 rfl (k_bipush dX2_readReplacement_60 (by decide +kernel) (k_icgt dX2_readReplacement_62 rfl (sX2_readReplacement_73 hK) (sX2_readReplacement_65 hK)))
theorem nX2_readReplacement_59 : kv_cn (fun K => fX2_readReplacement_59 K) := cn_iload 3 (cn_const 51 (cn_icgt nX2_readReplacement_73 nX2_readReplacement_65))
def fX2_readReplacement_53 (K : Nat → kv_D) : kv_D := o_iload 3 (o_const 49 (o_iclt (fX2_readReplacement_73 K) (fX2_readReplacement_59 K)))
theorem sX2_readReplacement_53 {K : Nat → kv_D} (hK : ∀ pc, SX2_readReplacement pc (K pc)) : SX2_readReplacement 53 (fX2_readReplacement_53 K) := k_iload_n dX2_readReplacement_53 rfl (k_bipush dX2_readReplacement_54 (by decide +kernel) (k_iclt dX2_readReplacement_56 rfl (sX2_readReplacement_73 hK) (sX2_readReplacement_59 hK)))
theorem nX2_readReplacement_53 : kv_cn (fun K => fX2_readReplacement_53 K) := cn_iload 3 (cn_const 49 (cn_iclt nX2_readReplacement_73 nX2_readReplacement_59))
def fX2_readReplacement_46 (K : Nat → kv_D) : kv_D := o_iload 3 (o_callS 1 mX4_isSmall (o_ifne (fX2_readReplacement_65 K) (fX2_readReplacement_53 K)))
theorem sX2_readReplacement_46 {K : Nat → kv_D} (hK : ∀ pc, SX2_readReplacement pc (K pc)) : SX2_readReplacement 46 (fX2_readReplacement_46 K) := k_iload_n dX2_readReplacement_46 rfl (k_callSN dX2_readReplacement_47 cX4_isSmall_ct rfl (kv_goodC mw_207) mw_205 (List.mem_cons_of_mem _ mw_1) (List.mem_cons_of_mem _ mw_206) (by decide +kernel) (by decide) (by decide) (k_ifne dX2_readReplacement_50 rfl (sX2_readReplacement_65 hK) (sX2_readReplacement_53 hK)))
theorem nX2_readReplacement_46 : kv_cn (fun K => fX2_readReplacement_46 K) := cn_iload 3 (cn_callS 1 mX4_isSmall (cn_ifne nX2_readReplacement_65 nX2_readReplacement_53))
def fX2_readReplacement_33 (K : Nat → kv_D) : kv_D := o_const 1 (o_istore 2 (o_aload 1 (o_aload 1 (o_getf 1 11 (o_putf 1 13 .int ((fX2_readReplacement_75 K)))))))
theorem sX2_readReplacement_33 {K : Nat → kv_D} (hK : ∀ pc, SX2_readReplacement pc (K pc)) : SX2_readReplacement 33 (fX2_readReplacement_33 K) := k_iconst dX2_readReplacement_33 (by decide +kernel) (k_istore_n dX2_readReplacement_34 rfl (by decide) (k_aload_n dX2_readReplacement_35 rfl (k_aload_n dX2_readReplacement_36 rfl (k_getN (C := RX1) (T := TX1) (N := 14) (ci := 1) (index := 89) (kf := 11) dX2_readReplacement_37 rfl (fun w h => List.mem_cons_of_mem _ (inX1 w h)) (by decide) mw_83 (k_putN (C := RX1) (T := TX1) (N := 14) (ci := 1) (index := 92) (kf := 13) (ty := .int) dX2_readReplacement_40 rfl (fun w h => List.mem_cons_of_mem _ (inX1 w h)) tyX1 tyX1_ok nmX1 (by decide) mw_88 rfl rfl (k_goto dX2_readReplacement_43 rfl (sX2_readReplacement_75 hK)))))))
theorem nX2_readReplacement_33 : kv_cn (fun K => fX2_readReplacement_33 K) := cn_const 1 (cn_istore 2 (cn_aload 1 (cn_aload 1 (cn_getf 1 11 (cn_putf 1 13 .int (nX2_readReplacement_75))))))
def fX2_readReplacement_29 (K : Nat → kv_D) : kv_D := o_iload 2 (o_ifne (fX2_readReplacement_46 K) (fX2_readReplacement_33 K))
theorem sX2_readReplacement_29 {K : Nat → kv_D} (hK : ∀ pc, SX2_readReplacement pc (K pc)) : SX2_readReplacement 29 (fX2_readReplacement_29 K) := k_iload_n dX2_readReplacement_29 rfl (k_ifne dX2_readReplacement_30 rfl (sX2_readReplacement_46 hK) (sX2_readReplacement_33 hK))
theorem nX2_readReplacement_29 : kv_cn (fun K => fX2_readReplacement_29 K) := cn_iload 2 (cn_ifne nX2_readReplacement_46 nX2_readReplacement_33)
def fX2_readReplacement_13 (K : Nat → kv_D) : kv_D := o_aload 0 (o_getf 2 0 (o_aload 0 (o_getf 2 2 (o_iald 1 (o_istore 3 (o_iload 3 (o_const 124 (o_icne (fX2_readReplacement_46 K) (fX2_readReplacement_29 K)))))))))
theorem sX2_readReplacement_13 {K : Nat → kv_D} (hK : ∀ pc, SX2_readReplacement pc (K pc)) : SX2_readReplacement 13 (fX2_readReplacement_13 K) := k_aload_n dX2_readReplacement_13 rfl (k_getf (C := RX2) (T := TX2) (N := 6) (ci := 2) (index := 9) (kf := 0) dX2_readReplacement_14 rfl (fun w h => List.mem_cons_of_mem _ (inX2 w h)) (by decide) (List.mem_cons_of_mem _ mw_27) (k_aload_n dX2_readReplacement_17 rfl (k_getf (C := RX2) (T := TX2) (N := 6) (ci := 2) (index := 19) (kf := 2) dX2_readReplacement_18 rfl (fun w h => List.mem_cons_of_mem _ (inX2 w h)) (by decide) (List.mem_cons_of_mem _ mw_29) (k_cald dX2_readReplacement_21 rfl (k_istore_n dX2_readReplacement_22 rfl (by decide) (k_iload_n dX2_readReplacement_23 rfl (k_bipush dX2_readReplacement_24 (by decide +kernel) (k_icne dX2_readReplacement_26 rfl (sX2_readReplacement_46 hK) (sX2_readReplacement_29 hK)))))))))
theorem nX2_readReplacement_13 : kv_cn (fun K => fX2_readReplacement_13 K) := cn_aload 0 (cn_getf 2 0 (cn_aload 0 (cn_getf 2 2 (cn_iald 1 (cn_istore 3 (cn_iload 3 (cn_const 124 (cn_icne nX2_readReplacement_46 nX2_readReplacement_29))))))))
def fX2_readReplacement_2 (K : Nat → kv_D) : kv_D := o_aload 0 (o_getf 2 2 (o_aload 0 (o_getf 2 1 (o_icge (fX2_readReplacement_88 K) (fX2_readReplacement_13 K)))))
theorem sX2_readReplacement_2 {K : Nat → kv_D} (hK : ∀ pc, SX2_readReplacement pc (K pc)) : SX2_readReplacement 2 (fX2_readReplacement_2 K) := k_aload_n dX2_readReplacement_2 rfl (k_getf (C := RX2) (T := TX2) (N := 6) (ci := 2) (index := 19) (kf := 2) dX2_readReplacement_3 rfl (fun w h => List.mem_cons_of_mem _ (inX2 w h)) (by decide) (List.mem_cons_of_mem _ mw_29) (k_aload_n dX2_readReplacement_6 rfl (k_getf (C := RX2) (T := TX2) (N := 6) (ci := 2) (index := 15) (kf := 1) dX2_readReplacement_7 rfl (fun w h => List.mem_cons_of_mem _ (inX2 w h)) (by decide) (List.mem_cons_of_mem _ mw_28) (k_icge dX2_readReplacement_10 rfl (sX2_readReplacement_88 hK) (sX2_readReplacement_13 hK)))))
theorem nX2_readReplacement_2 : kv_cn (fun K => fX2_readReplacement_2 K) := cn_aload 0 (cn_getf 2 2 (cn_aload 0 (cn_getf 2 1 (cn_icge nX2_readReplacement_88 nX2_readReplacement_13))))
def fX2_readReplacement_0 (K : Nat → kv_D) : kv_D := o_const 0 (o_istore 2 ((K 2)))
theorem sX2_readReplacement_0 {K : Nat → kv_D} (hK : ∀ pc, SX2_readReplacement pc (K pc)) : SX2_readReplacement 0 (fX2_readReplacement_0 K) := k_iconst dX2_readReplacement_0 (by decide +kernel) (k_istore_n dX2_readReplacement_1 rfl (by decide) ((hK 2)))
theorem nX2_readReplacement_0 : kv_cn (fun K => fX2_readReplacement_0 K) := cn_const 0 (cn_istore 2 ((cn_K 2)))
def bX2_readReplacement (K : Nat → kv_D) (pc : Nat) : kv_D := if pc = 2 then fX2_readReplacement_2 K else fun _ _ _ _ _ => False
theorem hX2_readReplacement : ∀ pc, SX2_readReplacement pc (kv_lim (bX2_readReplacement) pc) := kv_lim_S (fun K hK pc => by
  unfold bX2_readReplacement
  by_cases q2 : pc = 2
  · rw [if_pos q2, q2]
    exact sX2_readReplacement_2 hK
  rw [if_neg q2]
  exact kv_none)
theorem uX2_readReplacement_2 {L : List (Option Value)} {st : List Value} {h : kv_H} {v : Option Value} {h' : kv_H} (hx : fX2_readReplacement_2 (kv_lim (bX2_readReplacement)) L st h v h') : kv_lim (bX2_readReplacement) 2 L st h v h' := kv_un (q := 2) (by have e : (fun K => bX2_readReplacement K 2) = fun K => fX2_readReplacement_2 K := (by funext K; rfl); rw [e]; exact nX2_readReplacement_2) (by have e : bX2_readReplacement (kv_lim (bX2_readReplacement)) 2 = fX2_readReplacement_2 (kv_lim (bX2_readReplacement)) := rfl; rw [e]; exact hx)
def mX2_readReplacement : kv_M := kv_in 2 4 (fX2_readReplacement_0 (kv_lim (bX2_readReplacement)))
theorem cX2_readReplacement_ct : kv_CT yX2_readReplacement wX2_readReplacement 2 42 mX2_readReplacement := kv_met (by decide) rfl rfl (by decide) (fun h => by cases h) (sX2_readReplacement_0 (hX2_readReplacement))
end
section
theorem dX2_readRule_103 : decode cX2_readRule 103 = .ok (.ireturn, 1) := by decide +kernel
theorem dX2_readRule_102 : decode cX2_readRule 102 = .ok (.iconst 0, 1) := by decide +kernel
theorem dX2_readRule_98 : decode cX2_readRule 98 = .ok (.iconst 1, 1) := by decide +kernel
theorem dX2_readRule_99 : decode cX2_readRule 99 = .ok (.goto 4, 3) := by decide +kernel
theorem dX2_readRule_90 : decode cX2_readRule 90 = .ok (.aload_n 0, 1) := by decide +kernel
theorem dX2_readRule_91 : decode cX2_readRule 91 = .ok (.aload_n 1, 1) := by decide +kernel
theorem dX2_readRule_92 : decode cX2_readRule 92 = .ok (.invokevirtual 68, 3) := by decide +kernel
theorem dX2_readRule_95 : decode cX2_readRule 95 = .ok (.ifCond .eq 7, 3) := by decide +kernel
theorem dX2_readRule_81 : decode cX2_readRule 81 = .ok (.aload_n 0, 1) := by decide +kernel
theorem dX2_readRule_82 : decode cX2_readRule 82 = .ok (.bipush 62, 2) := by decide +kernel
theorem dX2_readRule_84 : decode cX2_readRule 84 = .ok (.invokevirtual 51, 3) := by decide +kernel
theorem dX2_readRule_87 : decode cX2_readRule 87 = .ok (.ifCond .eq 15, 3) := by decide +kernel
theorem dX2_readRule_79 : decode cX2_readRule 79 = .ok (.iconst 0, 1) := by decide +kernel
theorem dX2_readRule_80 : decode cX2_readRule 80 = .ok (.ireturn, 1) := by decide +kernel
theorem dX2_readRule_71 : decode cX2_readRule 71 = .ok (.aload_n 0, 1) := by decide +kernel
theorem dX2_readRule_72 : decode cX2_readRule 72 = .ok (.aload_n 1, 1) := by decide +kernel
theorem dX2_readRule_73 : decode cX2_readRule 73 = .ok (.invokevirtual 47, 3) := by decide +kernel
theorem dX2_readRule_76 : decode cX2_readRule 76 = .ok (.ifCond .ne 5, 3) := by decide +kernel
theorem dX2_readRule_54 : decode cX2_readRule 54 = .ok (.aload_n 1, 1) := by decide +kernel
theorem dX2_readRule_55 : decode cX2_readRule 55 = .ok (.aload_n 1, 1) := by decide +kernel
theorem dX2_readRule_56 : decode cX2_readRule 56 = .ok (.getfield 54, 3) := by decide +kernel
theorem dX2_readRule_59 : decode cX2_readRule 59 = .ok (.putfield 65, 3) := by decide +kernel
theorem dX2_readRule_62 : decode cX2_readRule 62 = .ok (.aload_n 0, 1) := by decide +kernel
theorem dX2_readRule_63 : decode cX2_readRule 63 = .ok (.bipush 125, 2) := by decide +kernel
theorem dX2_readRule_65 : decode cX2_readRule 65 = .ok (.invokevirtual 51, 3) := by decide +kernel
theorem dX2_readRule_68 : decode cX2_readRule 68 = .ok (.ifCond .eq 13, 3) := by decide +kernel
theorem dX2_readRule_52 : decode cX2_readRule 52 = .ok (.iconst 0, 1) := by decide +kernel
theorem dX2_readRule_53 : decode cX2_readRule 53 = .ok (.ireturn, 1) := by decide +kernel
theorem dX2_readRule_36 : decode cX2_readRule 36 = .ok (.aload_n 1, 1) := by decide +kernel
theorem dX2_readRule_37 : decode cX2_readRule 37 = .ok (.aload_n 1, 1) := by decide +kernel
theorem dX2_readRule_38 : decode cX2_readRule 38 = .ok (.getfield 54, 3) := by decide +kernel
theorem dX2_readRule_41 : decode cX2_readRule 41 = .ok (.putfield 59, 3) := by decide +kernel
theorem dX2_readRule_44 : decode cX2_readRule 44 = .ok (.aload_n 0, 1) := by decide +kernel
theorem dX2_readRule_45 : decode cX2_readRule 45 = .ok (.aload_n 1, 1) := by decide +kernel
theorem dX2_readRule_46 : decode cX2_readRule 46 = .ok (.invokevirtual 62, 3) := by decide +kernel
theorem dX2_readRule_49 : decode cX2_readRule 49 = .ok (.ifCond .ne 5, 3) := by decide +kernel
theorem dX2_readRule_34 : decode cX2_readRule 34 = .ok (.iconst 0, 1) := by decide +kernel
theorem dX2_readRule_35 : decode cX2_readRule 35 = .ok (.ireturn, 1) := by decide +kernel
theorem dX2_readRule_25 : decode cX2_readRule 25 = .ok (.aload_n 0, 1) := by decide +kernel
theorem dX2_readRule_26 : decode cX2_readRule 26 = .ok (.bipush 123, 2) := by decide +kernel
theorem dX2_readRule_28 : decode cX2_readRule 28 = .ok (.invokevirtual 51, 3) := by decide +kernel
theorem dX2_readRule_31 : decode cX2_readRule 31 = .ok (.ifCond .ne 5, 3) := by decide +kernel
theorem dX2_readRule_17 : decode cX2_readRule 17 = .ok (.aload_n 0, 1) := by decide +kernel
theorem dX2_readRule_18 : decode cX2_readRule 18 = .ok (.aload_n 1, 1) := by decide +kernel
theorem dX2_readRule_19 : decode cX2_readRule 19 = .ok (.invokevirtual 47, 3) := by decide +kernel
theorem dX2_readRule_22 : decode cX2_readRule 22 = .ok (.ifCond .eq 12, 3) := by decide +kernel
theorem dX2_readRule_0 : decode cX2_readRule 0 = .ok (.aload_n 0, 1) := by decide +kernel
theorem dX2_readRule_1 : decode cX2_readRule 1 = .ok (.iconst 0, 1) := by decide +kernel
theorem dX2_readRule_2 : decode cX2_readRule 2 = .ok (.putfield 19, 3) := by decide +kernel
theorem dX2_readRule_5 : decode cX2_readRule 5 = .ok (.aload_n 0, 1) := by decide +kernel
theorem dX2_readRule_6 : decode cX2_readRule 6 = .ok (.iconst 0, 1) := by decide +kernel
theorem dX2_readRule_7 : decode cX2_readRule 7 = .ok (.putfield 29, 3) := by decide +kernel
theorem dX2_readRule_10 : decode cX2_readRule 10 = .ok (.aload_n 0, 1) := by decide +kernel
theorem dX2_readRule_11 : decode cX2_readRule 11 = .ok (.invokevirtual 44, 3) := by decide +kernel
theorem dX2_readRule_14 : decode cX2_readRule 14 = .ok (.ifCond .eq 22, 3) := by decide +kernel
theorem dX1_isTooLarge_31 : decode cX1_isTooLarge 31 = .ok (.ireturn, 1) := by decide +kernel
theorem dX1_isTooLarge_30 : decode cX1_isTooLarge 30 = .ok (.iconst 0, 1) := by decide +kernel
theorem dX1_isTooLarge_26 : decode cX1_isTooLarge 26 = .ok (.iconst 1, 1) := by decide +kernel
theorem dX1_isTooLarge_27 : decode cX1_isTooLarge 27 = .ok (.goto 4, 3) := by decide +kernel
theorem dX1_isTooLarge_17 : decode cX1_isTooLarge 17 = .ok (.aload_n 0, 1) := by decide +kernel
theorem dX1_isTooLarge_18 : decode cX1_isTooLarge 18 = .ok (.getfield 48, 3) := by decide +kernel
theorem dX1_isTooLarge_21 : decode cX1_isTooLarge 21 = .ok (.bipush 12, 2) := by decide +kernel
theorem dX1_isTooLarge_23 : decode cX1_isTooLarge 23 = .ok (.if_icmp .le 7, 3) := by decide +kernel
theorem dX1_isTooLarge_9 : decode cX1_isTooLarge 9 = .ok (.aload_n 0, 1) := by decide +kernel
theorem dX1_isTooLarge_10 : decode cX1_isTooLarge 10 = .ok (.getfield 41, 3) := by decide +kernel
theorem dX1_isTooLarge_13 : decode cX1_isTooLarge 13 = .ok (.iconst 3, 1) := by decide +kernel
theorem dX1_isTooLarge_14 : decode cX1_isTooLarge 14 = .ok (.if_icmp .gt 12, 3) := by decide +kernel
theorem dX1_isTooLarge_0 : decode cX1_isTooLarge 0 = .ok (.aload_n 0, 1) := by decide +kernel
theorem dX1_isTooLarge_1 : decode cX1_isTooLarge 1 = .ok (.getfield 21, 3) := by decide +kernel
theorem dX1_isTooLarge_4 : decode cX1_isTooLarge 4 = .ok (.bipush 12, 2) := by decide +kernel
theorem dX1_isTooLarge_6 : decode cX1_isTooLarge 6 = .ok (.if_icmp .gt 20, 3) := by decide +kernel
theorem dX1_masks_81 : decode cX1_masks 81 = .ok (.iconst 1, 1) := by decide +kernel
theorem dX1_masks_82 : decode cX1_masks 82 = .ok (.ireturn, 1) := by decide +kernel
theorem dX1_masks_75 : decode cX1_masks 75 = .ok (.iinc 3 1, 3) := by decide +kernel
theorem dX1_masks_78 : decode cX1_masks 78 = .ok (.goto (-33), 3) := by decide +kernel
theorem dX1_masks_73 : decode cX1_masks 73 = .ok (.iconst 0, 1) := by decide +kernel
theorem dX1_masks_74 : decode cX1_masks 74 = .ok (.ireturn, 1) := by decide +kernel
theorem dX1_masks_53 : decode cX1_masks 53 = .ok (.aload_n 1, 1) := by decide +kernel
theorem dX1_masks_54 : decode cX1_masks 54 = .ok (.getfield 9, 3) := by decide +kernel
theorem dX1_masks_57 : decode cX1_masks 57 = .ok (.iload_n 3, 1) := by decide +kernel
theorem dX1_masks_58 : decode cX1_masks 58 = .ok (.iload_n 2, 1) := by decide +kernel
theorem dX1_masks_59 : decode cX1_masks 59 = .ok (.iadd, 1) := by decide +kernel
theorem dX1_masks_60 : decode cX1_masks 60 = .ok (.iaload, 1) := by decide +kernel
theorem dX1_masks_61 : decode cX1_masks 61 = .ok (.aload_n 0, 1) := by decide +kernel
theorem dX1_masks_62 : decode cX1_masks 62 = .ok (.getfield 9, 3) := by decide +kernel
theorem dX1_masks_65 : decode cX1_masks 65 = .ok (.iload_n 3, 1) := by decide +kernel
theorem dX1_masks_66 : decode cX1_masks 66 = .ok (.iaload, 1) := by decide +kernel
theorem dX1_masks_67 : decode cX1_masks 67 = .ok (.iconst (-1), 1) := by decide +kernel
theorem dX1_masks_68 : decode cX1_masks 68 = .ok (.ixor, 1) := by decide +kernel
theorem dX1_masks_69 : decode cX1_masks 69 = .ok (.iand, 1) := by decide +kernel
theorem dX1_masks_70 : decode cX1_masks 70 = .ok (.ifCond .eq 5, 3) := by decide +kernel
theorem dX1_masks_45 : decode cX1_masks 45 = .ok (.iload_n 3, 1) := by decide +kernel
theorem dX1_masks_46 : decode cX1_masks 46 = .ok (.aload_n 0, 1) := by decide +kernel
theorem dX1_masks_47 : decode cX1_masks 47 = .ok (.getfield 21, 3) := by decide +kernel
theorem dX1_masks_50 : decode cX1_masks 50 = .ok (.if_icmp .ge 31, 3) := by decide +kernel
theorem dX1_masks_43 : decode cX1_masks 43 = .ok (.iconst 0, 1) := by decide +kernel
theorem dX1_masks_44 : decode cX1_masks 44 = .ok (.istore_n 3, 1) := by decide +kernel
theorem dX1_masks_41 : decode cX1_masks 41 = .ok (.iconst 0, 1) := by decide +kernel
theorem dX1_masks_42 : decode cX1_masks 42 = .ok (.ireturn, 1) := by decide +kernel
theorem dX1_masks_28 : decode cX1_masks 28 = .ok (.aload_n 0, 1) := by decide +kernel
theorem dX1_masks_29 : decode cX1_masks 29 = .ok (.getfield 21, 3) := by decide +kernel
theorem dX1_masks_32 : decode cX1_masks 32 = .ok (.iload_n 2, 1) := by decide +kernel
theorem dX1_masks_33 : decode cX1_masks 33 = .ok (.iadd, 1) := by decide +kernel
theorem dX1_masks_34 : decode cX1_masks 34 = .ok (.aload_n 1, 1) := by decide +kernel
theorem dX1_masks_35 : decode cX1_masks 35 = .ok (.getfield 21, 3) := by decide +kernel
theorem dX1_masks_38 : decode cX1_masks 38 = .ok (.if_icmp .le 5, 3) := by decide +kernel
theorem dX1_masks_24 : decode cX1_masks 24 = .ok (.iload_n 2, 1) := by decide +kernel
theorem dX1_masks_25 : decode cX1_masks 25 = .ok (.ifCond .lt 16, 3) := by decide +kernel
theorem dX1_masks_17 : decode cX1_masks 17 = .ok (.aload_n 1, 1) := by decide +kernel
theorem dX1_masks_18 : decode cX1_masks 18 = .ok (.getfield 31, 3) := by decide +kernel
theorem dX1_masks_21 : decode cX1_masks 21 = .ok (.ifCond .ne 20, 3) := by decide +kernel
theorem dX1_masks_0 : decode cX1_masks 0 = .ok (.aload_n 1, 1) := by decide +kernel
theorem dX1_masks_1 : decode cX1_masks 1 = .ok (.getfield 25, 3) := by decide +kernel
theorem dX1_masks_4 : decode cX1_masks 4 = .ok (.aload_n 0, 1) := by decide +kernel
theorem dX1_masks_5 : decode cX1_masks 5 = .ok (.getfield 25, 3) := by decide +kernel
theorem dX1_masks_8 : decode cX1_masks 8 = .ok (.isub, 1) := by decide +kernel
theorem dX1_masks_9 : decode cX1_masks 9 = .ok (.istore_n 2, 1) := by decide +kernel
theorem dX1_masks_10 : decode cX1_masks 10 = .ok (.aload_n 0, 1) := by decide +kernel
theorem dX1_masks_11 : decode cX1_masks 11 = .ok (.getfield 31, 3) := by decide +kernel
theorem dX1_masks_14 : decode cX1_masks 14 = .ok (.ifCond .ne 27, 3) := by decide +kernel
theorem dX4_isMasked_31 : decode cX4_isMasked 31 = .ok (.iconst 0, 1) := by decide +kernel
theorem dX4_isMasked_32 : decode cX4_isMasked 32 = .ok (.ireturn, 1) := by decide +kernel
theorem dX4_isMasked_25 : decode cX4_isMasked 25 = .ok (.iinc 2 1, 3) := by decide +kernel
theorem dX4_isMasked_28 : decode cX4_isMasked 28 = .ok (.goto (-26), 3) := by decide +kernel
theorem dX4_isMasked_23 : decode cX4_isMasked 23 = .ok (.iconst 1, 1) := by decide +kernel
theorem dX4_isMasked_24 : decode cX4_isMasked 24 = .ok (.ireturn, 1) := by decide +kernel
theorem dX4_isMasked_10 : decode cX4_isMasked 10 = .ok (.aload_n 0, 1) := by decide +kernel
theorem dX4_isMasked_11 : decode cX4_isMasked 11 = .ok (.getfield 18, 3) := by decide +kernel
theorem dX4_isMasked_14 : decode cX4_isMasked 14 = .ok (.iload_n 2, 1) := by decide +kernel
theorem dX4_isMasked_15 : decode cX4_isMasked 15 = .ok (.aaload, 1) := by decide +kernel
theorem dX4_isMasked_16 : decode cX4_isMasked 16 = .ok (.aload_n 1, 1) := by decide +kernel
theorem dX4_isMasked_17 : decode cX4_isMasked 17 = .ok (.invokevirtual 126, 3) := by decide +kernel
theorem dX4_isMasked_20 : decode cX4_isMasked 20 = .ok (.ifCond .eq 5, 3) := by decide +kernel
theorem dX4_isMasked_2 : decode cX4_isMasked 2 = .ok (.iload_n 2, 1) := by decide +kernel
theorem dX4_isMasked_3 : decode cX4_isMasked 3 = .ok (.aload_n 0, 1) := by decide +kernel
theorem dX4_isMasked_4 : decode cX4_isMasked 4 = .ok (.getfield 23, 3) := by decide +kernel
theorem dX4_isMasked_7 : decode cX4_isMasked 7 = .ok (.if_icmp .ge 24, 3) := by decide +kernel
theorem dX4_isMasked_0 : decode cX4_isMasked 0 = .ok (.iconst 0, 1) := by decide +kernel
theorem dX4_isMasked_1 : decode cX4_isMasked 1 = .ok (.istore_n 2, 1) := by decide +kernel
theorem dX4_endRule_84 : decode cX4_endRule 84 = .ok (.aload_n 0, 1) := by decide +kernel
theorem dX4_endRule_85 : decode cX4_endRule 85 = .ok (.dup, 1) := by decide +kernel
theorem dX4_endRule_86 : decode cX4_endRule 86 = .ok (.getfield 23, 3) := by decide +kernel
theorem dX4_endRule_89 : decode cX4_endRule 89 = .ok (.iconst 1, 1) := by decide +kernel
theorem dX4_endRule_90 : decode cX4_endRule 90 = .ok (.iadd, 1) := by decide +kernel
theorem dX4_endRule_91 : decode cX4_endRule 91 = .ok (.putfield 23, 3) := by decide +kernel
theorem dX4_endRule_94 : decode cX4_endRule 94 = .ok (.bipush 10, 2) := by decide +kernel
theorem dX4_endRule_96 : decode cX4_endRule 96 = .ok (.aload_n 0, 1) := by decide +kernel
theorem dX4_endRule_97 : decode cX4_endRule 97 = .ok (.getfield 23, 3) := by decide +kernel
theorem dX4_endRule_100 : decode cX4_endRule 100 = .ok (.iadd, 1) := by decide +kernel
theorem dX4_endRule_101 : decode cX4_endRule 101 = .ok (.iconst 1, 1) := by decide +kernel
theorem dX4_endRule_102 : decode cX4_endRule 102 = .ok (.isub, 1) := by decide +kernel
theorem dX4_endRule_103 : decode cX4_endRule 103 = .ok (.ireturn, 1) := by decide +kernel
theorem dX4_endRule_81 : decode cX4_endRule 81 = .ok (.bipush (-5), 2) := by decide +kernel
theorem dX4_endRule_83 : decode cX4_endRule 83 = .ok (.ireturn, 1) := by decide +kernel
theorem dX4_endRule_73 : decode cX4_endRule 73 = .ok (.aload_n 0, 1) := by decide +kernel
theorem dX4_endRule_74 : decode cX4_endRule 74 = .ok (.aload_n 1, 1) := by decide +kernel
theorem dX4_endRule_75 : decode cX4_endRule 75 = .ok (.invokevirtual 123, 3) := by decide +kernel
theorem dX4_endRule_78 : decode cX4_endRule 78 = .ok (.ifCond .eq 6, 3) := by decide +kernel
theorem dX4_endRule_70 : decode cX4_endRule 70 = .ok (.bipush (-4), 2) := by decide +kernel
theorem dX4_endRule_72 : decode cX4_endRule 72 = .ok (.ireturn, 1) := by decide +kernel
theorem dX4_endRule_63 : decode cX4_endRule 63 = .ok (.aload_n 1, 1) := by decide +kernel
theorem dX4_endRule_64 : decode cX4_endRule 64 = .ok (.invokevirtual 120, 3) := by decide +kernel
theorem dX4_endRule_67 : decode cX4_endRule 67 = .ok (.ifCond .eq 6, 3) := by decide +kernel
theorem dX4_endRule_54 : decode cX4_endRule 54 = .ok (.aload_n 0, 1) := by decide +kernel
theorem dX4_endRule_55 : decode cX4_endRule 55 = .ok (.getfield 23, 3) := by decide +kernel
theorem dX4_endRule_58 : decode cX4_endRule 58 = .ok (.bipush 8, 2) := by decide +kernel
theorem dX4_endRule_60 : decode cX4_endRule 60 = .ok (.if_icmp .ge 10, 3) := by decide +kernel
theorem dX4_endRule_51 : decode cX4_endRule 51 = .ok (.bipush (-3), 2) := by decide +kernel
theorem dX4_endRule_53 : decode cX4_endRule 53 = .ok (.ireturn, 1) := by decide +kernel
theorem dX4_endRule_40 : decode cX4_endRule 40 = .ok (.aload_n 1, 1) := by decide +kernel
theorem dX4_endRule_41 : decode cX4_endRule 41 = .ok (.getfield 114, 3) := by decide +kernel
theorem dX4_endRule_44 : decode cX4_endRule 44 = .ok (.aload_n 1, 1) := by decide +kernel
theorem dX4_endRule_45 : decode cX4_endRule 45 = .ok (.getfield 117, 3) := by decide +kernel
theorem dX4_endRule_48 : decode cX4_endRule 48 = .ok (.if_icmp .le 6, 3) := by decide +kernel
theorem dX4_endRule_37 : decode cX4_endRule 37 = .ok (.bipush (-2), 2) := by decide +kernel
theorem dX4_endRule_39 : decode cX4_endRule 39 = .ok (.ireturn, 1) := by decide +kernel
theorem dX4_endRule_27 : decode cX4_endRule 27 = .ok (.aload_n 0, 1) := by decide +kernel
theorem dX4_endRule_28 : decode cX4_endRule 28 = .ok (.getfield 12, 3) := by decide +kernel
theorem dX4_endRule_31 : decode cX4_endRule 31 = .ok (.getfield 103, 3) := by decide +kernel
theorem dX4_endRule_34 : decode cX4_endRule 34 = .ok (.ifCond .eq 6, 3) := by decide +kernel
theorem dX4_endRule_25 : decode cX4_endRule 25 = .ok (.iconst (-1), 1) := by decide +kernel
theorem dX4_endRule_26 : decode cX4_endRule 26 = .ok (.ireturn, 1) := by decide +kernel
theorem dX4_endRule_0 : decode cX4_endRule 0 = .ok (.aload_n 0, 1) := by decide +kernel
theorem dX4_endRule_1 : decode cX4_endRule 1 = .ok (.getfield 18, 3) := by decide +kernel
theorem dX4_endRule_4 : decode cX4_endRule 4 = .ok (.aload_n 0, 1) := by decide +kernel
theorem dX4_endRule_5 : decode cX4_endRule 5 = .ok (.getfield 23, 3) := by decide +kernel
theorem dX4_endRule_8 : decode cX4_endRule 8 = .ok (.aaload, 1) := by decide +kernel
theorem dX4_endRule_9 : decode cX4_endRule 9 = .ok (.astore_n 1, 1) := by decide +kernel
theorem dX4_endRule_10 : decode cX4_endRule 10 = .ok (.aload_n 1, 1) := by decide +kernel
theorem dX4_endRule_11 : decode cX4_endRule 11 = .ok (.invokevirtual 109, 3) := by decide +kernel
theorem dX4_endRule_14 : decode cX4_endRule 14 = .ok (.aload_n 0, 1) := by decide +kernel
theorem dX4_endRule_15 : decode cX4_endRule 15 = .ok (.getfield 12, 3) := by decide +kernel
theorem dX4_endRule_18 : decode cX4_endRule 18 = .ok (.aload_n 1, 1) := by decide +kernel
theorem dX4_endRule_19 : decode cX4_endRule 19 = .ok (.invokevirtual 110, 3) := by decide +kernel
theorem dX4_endRule_22 : decode cX4_endRule 22 = .ok (.ifCond .ne 5, 3) := by decide +kernel
theorem dX2_clear_0 : decode cX2_clear 0 = .ok (.aload_n 0, 1) := by decide +kernel
theorem dX2_clear_1 : decode cX2_clear 1 = .ok (.iconst 0, 1) := by decide +kernel
theorem dX2_clear_2 : decode cX2_clear 2 = .ok (.putfield 15, 3) := by decide +kernel
theorem dX2_clear_5 : decode cX2_clear 5 = .ok (.return_, 1) := by decide +kernel
theorem dX2_type_11 : decode cX2_type 11 = .ok (.aload_n 0, 1) := by decide +kernel
theorem dX2_type_12 : decode cX2_type 12 = .ok (.getfield 9, 3) := by decide +kernel
theorem dX2_type_15 : decode cX2_type 15 = .ok (.aload_n 0, 1) := by decide +kernel
theorem dX2_type_16 : decode cX2_type 16 = .ok (.getfield 15, 3) := by decide +kernel
theorem dX2_type_19 : decode cX2_type 19 = .ok (.iload_n 1, 1) := by decide +kernel
theorem dX2_type_20 : decode cX2_type 20 = .ok (.castore, 1) := by decide +kernel
theorem dX2_type_21 : decode cX2_type 21 = .ok (.aload_n 0, 1) := by decide +kernel
theorem dX2_type_22 : decode cX2_type 22 = .ok (.dup, 1) := by decide +kernel
theorem dX2_type_23 : decode cX2_type 23 = .ok (.getfield 15, 3) := by decide +kernel
theorem dX2_type_26 : decode cX2_type 26 = .ok (.iconst 1, 1) := by decide +kernel
theorem dX2_type_27 : decode cX2_type 27 = .ok (.iadd, 1) := by decide +kernel
theorem dX2_type_28 : decode cX2_type 28 = .ok (.putfield 15, 3) := by decide +kernel
theorem dX2_type_31 : decode cX2_type 31 = .ok (.iconst 1, 1) := by decide +kernel
theorem dX2_type_32 : decode cX2_type 32 = .ok (.ireturn, 1) := by decide +kernel
theorem dX2_type_9 : decode cX2_type 9 = .ok (.iconst 0, 1) := by decide +kernel
theorem dX2_type_10 : decode cX2_type 10 = .ok (.ireturn, 1) := by decide +kernel
theorem dX2_type_0 : decode cX2_type 0 = .ok (.aload_n 0, 1) := by decide +kernel
theorem dX2_type_1 : decode cX2_type 1 = .ok (.getfield 15, 3) := by decide +kernel
theorem dX2_type_4 : decode cX2_type 4 = .ok (.bipush 48, 2) := by decide +kernel
theorem dX2_type_6 : decode cX2_type 6 = .ok (.if_icmp .lt 5, 3) := by decide +kernel
theorem dX4_code_77 : decode cX4_code 77 = .ok (.ireturn, 1) := by decide +kernel
theorem dX4_code_75 : decode cX4_code 75 = .ok (.bipush (-6), 2) := by decide +kernel
theorem dX4_code_71 : decode cX4_code 71 = .ok (.iconst 0, 1) := by decide +kernel
theorem dX4_code_72 : decode cX4_code 72 = .ok (.goto 5, 3) := by decide +kernel
theorem dX4_code_60 : decode cX4_code 60 = .ok (.aload_n 0, 1) := by decide +kernel
theorem dX4_code_61 : decode cX4_code 61 = .ok (.getfield 12, 3) := by decide +kernel
theorem dX4_code_64 : decode cX4_code 64 = .ok (.iload_n 1, 1) := by decide +kernel
theorem dX4_code_65 : decode cX4_code 65 = .ok (.invokevirtual 65, 3) := by decide +kernel
theorem dX4_code_68 : decode cX4_code 68 = .ok (.ifCond .eq 7, 3) := by decide +kernel
theorem dX4_code_50 : decode cX4_code 50 = .ok (.istore_n 2, 1) := by decide +kernel
theorem dX4_code_51 : decode cX4_code 51 = .ok (.aload_n 0, 1) := by decide +kernel
theorem dX4_code_52 : decode cX4_code 52 = .ok (.getfield 12, 3) := by decide +kernel
theorem dX4_code_55 : decode cX4_code 55 = .ok (.invokevirtual 62, 3) := by decide +kernel
theorem dX4_code_58 : decode cX4_code 58 = .ok (.iload_n 2, 1) := by decide +kernel
theorem dX4_code_59 : decode cX4_code 59 = .ok (.ireturn, 1) := by decide +kernel
theorem dX4_code_46 : decode cX4_code 46 = .ok (.aload_n 0, 1) := by decide +kernel
theorem dX4_code_47 : decode cX4_code 47 = .ok (.invokevirtual 59, 3) := by decide +kernel
theorem dX4_code_39 : decode cX4_code 39 = .ok (.aload_n 0, 1) := by decide +kernel
theorem dX4_code_40 : decode cX4_code 40 = .ok (.invokevirtual 55, 3) := by decide +kernel
theorem dX4_code_43 : decode cX4_code 43 = .ok (.goto 7, 3) := by decide +kernel
theorem dX4_code_29 : decode cX4_code 29 = .ok (.aload_n 0, 1) := by decide +kernel
theorem dX4_code_30 : decode cX4_code 30 = .ok (.getfield 12, 3) := by decide +kernel
theorem dX4_code_33 : decode cX4_code 33 = .ok (.invokevirtual 51, 3) := by decide +kernel
theorem dX4_code_36 : decode cX4_code 36 = .ok (.ifCond .eq 10, 3) := by decide +kernel
theorem dX4_code_23 : decode cX4_code 23 = .ok (.iload_n 1, 1) := by decide +kernel
theorem dX4_code_24 : decode cX4_code 24 = .ok (.bipush 59, 2) := by decide +kernel
theorem dX4_code_26 : decode cX4_code 26 = .ok (.if_icmp .ne 34, 3) := by decide +kernel
theorem dX4_code_21 : decode cX4_code 21 = .ok (.iconst 0, 1) := by decide +kernel
theorem dX4_code_22 : decode cX4_code 22 = .ok (.ireturn, 1) := by decide +kernel
theorem dX4_code_15 : decode cX4_code 15 = .ok (.iload_n 1, 1) := by decide +kernel
theorem dX4_code_16 : decode cX4_code 16 = .ok (.bipush 32, 2) := by decide +kernel
theorem dX4_code_18 : decode cX4_code 18 = .ok (.if_icmp .ne 5, 3) := by decide +kernel
theorem dX4_code_12 : decode cX4_code 12 = .ok (.bipush (-6), 2) := by decide +kernel
theorem dX4_code_14 : decode cX4_code 14 = .ok (.ireturn, 1) := by decide +kernel
theorem dX4_code_6 : decode cX4_code 6 = .ok (.iload_n 1, 1) := by decide +kernel
theorem dX4_code_7 : decode cX4_code 7 = .ok (.bipush 126, 2) := by decide +kernel
theorem dX4_code_9 : decode cX4_code 9 = .ok (.if_icmp .le 6, 3) := by decide +kernel
theorem dX4_code_0 : decode cX4_code 0 = .ok (.iload_n 1, 1) := by decide +kernel
theorem dX4_code_1 : decode cX4_code 1 = .ok (.bipush 32, 2) := by decide +kernel
theorem dX4_code_3 : decode cX4_code 3 = .ok (.if_icmp .lt 9, 3) := by decide +kernel
theorem dX4_rules_0 : decode cX4_rules 0 = .ok (.aload_n 0, 1) := by decide +kernel
theorem dX4_rules_1 : decode cX4_rules 1 = .ok (.getfield 23, 3) := by decide +kernel
theorem dX4_rules_4 : decode cX4_rules 4 = .ok (.ireturn, 1) := by decide +kernel
theorem dX3_clear_0 : decode cX3_clear 0 = .ok (.aload_n 0, 1) := by decide +kernel
theorem dX3_clear_1 : decode cX3_clear 1 = .ok (.iconst 0, 1) := by decide +kernel
theorem dX3_clear_2 : decode cX3_clear 2 = .ok (.putfield 18, 3) := by decide +kernel
theorem dX3_clear_5 : decode cX3_clear 5 = .ok (.aload_n 0, 1) := by decide +kernel
theorem dX3_clear_6 : decode cX3_clear 6 = .ok (.iconst 0, 1) := by decide +kernel
theorem dX3_clear_7 : decode cX3_clear 7 = .ok (.putfield 22, 3) := by decide +kernel
theorem dX3_clear_10 : decode cX3_clear 10 = .ok (.return_, 1) := by decide +kernel
theorem dX4_restart_0 : decode cX4_restart 0 = .ok (.aload_n 0, 1) := by decide +kernel
theorem dX4_restart_1 : decode cX4_restart 1 = .ok (.getfield 30, 3) := by decide +kernel
theorem dX4_restart_4 : decode cX4_restart 4 = .ok (.invokevirtual 75, 3) := by decide +kernel
theorem dX4_restart_7 : decode cX4_restart 7 = .ok (.aload_n 0, 1) := by decide +kernel
theorem dX4_restart_8 : decode cX4_restart 8 = .ok (.iconst 0, 1) := by decide +kernel
theorem dX4_restart_9 : decode cX4_restart 9 = .ok (.putfield 41, 3) := by decide +kernel
theorem dX4_restart_12 : decode cX4_restart 12 = .ok (.aload_n 0, 1) := by decide +kernel
theorem dX4_restart_13 : decode cX4_restart 13 = .ok (.iconst (-1), 1) := by decide +kernel
theorem dX4_restart_14 : decode cX4_restart 14 = .ok (.putfield 44, 3) := by decide +kernel
theorem dX4_restart_17 : decode cX4_restart 17 = .ok (.aload_n 0, 1) := by decide +kernel
theorem dX4_restart_18 : decode cX4_restart 18 = .ok (.iconst 0, 1) := by decide +kernel
theorem dX4_restart_19 : decode cX4_restart 19 = .ok (.putfield 47, 3) := by decide +kernel
theorem dX4_restart_22 : decode cX4_restart 22 = .ok (.return_, 1) := by decide +kernel
theorem dX4_forget_0 : decode cX4_forget 0 = .ok (.aload_n 0, 1) := by decide +kernel
theorem dX4_forget_1 : decode cX4_forget 1 = .ok (.iconst 0, 1) := by decide +kernel
theorem dX4_forget_2 : decode cX4_forget 2 = .ok (.putfield 23, 3) := by decide +kernel
theorem dX4_forget_5 : decode cX4_forget 5 = .ok (.aload_n 0, 1) := by decide +kernel
theorem dX4_forget_6 : decode cX4_forget 6 = .ok (.getfield 12, 3) := by decide +kernel
theorem dX4_forget_9 : decode cX4_forget 9 = .ok (.invokevirtual 62, 3) := by decide +kernel
theorem dX4_forget_12 : decode cX4_forget 12 = .ok (.aload_n 0, 1) := by decide +kernel
theorem dX4_forget_13 : decode cX4_forget 13 = .ok (.getfield 12, 3) := by decide +kernel
theorem dX4_forget_16 : decode cX4_forget 16 = .ok (.invokevirtual 69, 3) := by decide +kernel
theorem dX4_forget_19 : decode cX4_forget 19 = .ok (.aload_n 0, 1) := by decide +kernel
theorem dX4_forget_20 : decode cX4_forget 20 = .ok (.invokevirtual 72, 3) := by decide +kernel
theorem dX4_forget_23 : decode cX4_forget 23 = .ok (.return_, 1) := by decide +kernel
-- X2_readRule
def wX2_readRule : List Cond := Cond.code yX2_readRule cX2_readRule 2 (some .boolean) :: kv_tb
abbrev SX2_readRule (pc : Nat) (F : kv_D) : Prop := kv_S cX2_readRule 2 RX2 wX2_readRule (some .boolean) false 4 91 none pc F
def fX2_readRule_103 : kv_D := o_iret .boolean
theorem sX2_readRule_103 : SX2_readRule 103 (fX2_readRule_103) := k_iret dX2_readRule_103 rfl
def fX2_readRule_102 : kv_D := o_const 0 ((fX2_readRule_103))
theorem sX2_readRule_102 : SX2_readRule 102 (fX2_readRule_102) := k_iconst dX2_readRule_102 (by decide +kernel) ((sX2_readRule_103))
def fX2_readRule_98 : kv_D := o_const 1 ((fX2_readRule_103))
theorem sX2_readRule_98 : SX2_readRule 98 (fX2_readRule_98) := k_iconst dX2_readRule_98 (by decide +kernel) (k_goto dX2_readRule_99 rfl (sX2_readRule_103))
def fX2_readRule_90 : kv_D := o_aload 0 (o_aload 1 (o_callV 2 1 mX2_readReplacement (o_ifeq (fX2_readRule_102) (fX2_readRule_98))))
theorem sX2_readRule_90 : SX2_readRule 90 (fX2_readRule_90) := k_aload_n dX2_readRule_90 rfl (k_aload_n dX2_readRule_91 rfl (k_callV (q := (RX2, TX2, 6)) dX2_readRule_92 cX2_readReplacement_ct rfl (kv_goodV mw_263 mw_265 sel_X2_readReplacement mw_2 mw_266) (by decide +kernel) rfl (by decide) (by decide) (k_ifeq dX2_readRule_95 rfl (sX2_readRule_102) (sX2_readRule_98))))
def fX2_readRule_81 : kv_D := o_aload 0 (o_const 62 (o_callV 2 1 mX2_skip (o_ifeq (fX2_readRule_102) (fX2_readRule_90))))
theorem sX2_readRule_81 : SX2_readRule 81 (fX2_readRule_81) := k_aload_n dX2_readRule_81 rfl (k_bipush dX2_readRule_82 (by decide +kernel) (k_callV (q := (RX2, TX2, 6)) dX2_readRule_84 cX2_skip_ct rfl (kv_goodV mw_216 mw_218 sel_X2_skip mw_2 mw_219) (by decide +kernel) rfl (by decide) (by decide) (k_ifeq dX2_readRule_87 rfl (sX2_readRule_102) (sX2_readRule_90))))
def fX2_readRule_79 : kv_D := o_const 0 (o_iret .boolean)
theorem sX2_readRule_79 : SX2_readRule 79 (fX2_readRule_79) := k_iconst dX2_readRule_79 (by decide +kernel) (k_iret dX2_readRule_80 rfl)
def fX2_readRule_71 : kv_D := o_aload 0 (o_aload 1 (o_callV 2 1 mX2_readContext (o_ifne (fX2_readRule_81) (fX2_readRule_79))))
theorem sX2_readRule_71 : SX2_readRule 71 (fX2_readRule_71) := k_aload_n dX2_readRule_71 rfl (k_aload_n dX2_readRule_72 rfl (k_callV (q := (RX2, TX2, 6)) dX2_readRule_73 cX2_readContext_ct rfl (kv_goodV mw_240 mw_242 sel_X2_readContext mw_2 mw_243) (by decide +kernel) rfl (by decide) (by decide) (k_ifne dX2_readRule_76 rfl (sX2_readRule_81) (sX2_readRule_79))))
def fX2_readRule_54 : kv_D := o_aload 1 (o_aload 1 (o_getf 1 3 (o_putf 1 5 .int (o_aload 0 (o_const 125 (o_callV 2 1 mX2_skip (o_ifeq (fX2_readRule_81) (fX2_readRule_71))))))))
theorem sX2_readRule_54 : SX2_readRule 54 (fX2_readRule_54) := k_aload_n dX2_readRule_54 rfl (k_aload_n dX2_readRule_55 rfl (k_getN (C := RX1) (T := TX1) (N := 14) (ci := 1) (index := 54) (kf := 3) dX2_readRule_56 rfl (fun w h => List.mem_cons_of_mem _ (inX1 w h)) (by decide) mw_64 (k_putN (C := RX1) (T := TX1) (N := 14) (ci := 1) (index := 65) (kf := 5) (ty := .int) dX2_readRule_59 rfl (fun w h => List.mem_cons_of_mem _ (inX1 w h)) tyX1 tyX1_ok nmX1 (by decide) mw_71 rfl rfl (k_aload_n dX2_readRule_62 rfl (k_bipush dX2_readRule_63 (by decide +kernel) (k_callV (q := (RX2, TX2, 6)) dX2_readRule_65 cX2_skip_ct rfl (kv_goodV mw_216 mw_218 sel_X2_skip mw_2 mw_219) (by decide +kernel) rfl (by decide) (by decide) (k_ifeq dX2_readRule_68 rfl (sX2_readRule_81) (sX2_readRule_71))))))))
def fX2_readRule_52 : kv_D := o_const 0 (o_iret .boolean)
theorem sX2_readRule_52 : SX2_readRule 52 (fX2_readRule_52) := k_iconst dX2_readRule_52 (by decide +kernel) (k_iret dX2_readRule_53 rfl)
def fX2_readRule_36 : kv_D := o_aload 1 (o_aload 1 (o_getf 1 3 (o_putf 1 4 .int (o_aload 0 (o_aload 1 (o_callV 2 1 mX2_readKey (o_ifne (fX2_readRule_54) (fX2_readRule_52))))))))
theorem sX2_readRule_36 : SX2_readRule 36 (fX2_readRule_36) := k_aload_n dX2_readRule_36 rfl (k_aload_n dX2_readRule_37 rfl (k_getN (C := RX1) (T := TX1) (N := 14) (ci := 1) (index := 54) (kf := 3) dX2_readRule_38 rfl (fun w h => List.mem_cons_of_mem _ (inX1 w h)) (by decide) mw_64 (k_putN (C := RX1) (T := TX1) (N := 14) (ci := 1) (index := 59) (kf := 4) (ty := .int) dX2_readRule_41 rfl (fun w h => List.mem_cons_of_mem _ (inX1 w h)) tyX1 tyX1_ok nmX1 (by decide) mw_67 rfl rfl (k_aload_n dX2_readRule_44 rfl (k_aload_n dX2_readRule_45 rfl (k_callV (q := (RX2, TX2, 6)) dX2_readRule_46 cX2_readKey_ct rfl (kv_goodV mw_255 mw_257 sel_X2_readKey mw_2 mw_258) (by decide +kernel) rfl (by decide) (by decide) (k_ifne dX2_readRule_49 rfl (sX2_readRule_54) (sX2_readRule_52))))))))
def fX2_readRule_34 : kv_D := o_const 0 (o_iret .boolean)
theorem sX2_readRule_34 : SX2_readRule 34 (fX2_readRule_34) := k_iconst dX2_readRule_34 (by decide +kernel) (k_iret dX2_readRule_35 rfl)
def fX2_readRule_25 : kv_D := o_aload 0 (o_const 123 (o_callV 2 1 mX2_skip (o_ifne (fX2_readRule_36) (fX2_readRule_34))))
theorem sX2_readRule_25 : SX2_readRule 25 (fX2_readRule_25) := k_aload_n dX2_readRule_25 rfl (k_bipush dX2_readRule_26 (by decide +kernel) (k_callV (q := (RX2, TX2, 6)) dX2_readRule_28 cX2_skip_ct rfl (kv_goodV mw_216 mw_218 sel_X2_skip mw_2 mw_219) (by decide +kernel) rfl (by decide) (by decide) (k_ifne dX2_readRule_31 rfl (sX2_readRule_36) (sX2_readRule_34))))
def fX2_readRule_17 : kv_D := o_aload 0 (o_aload 1 (o_callV 2 1 mX2_readContext (o_ifeq (fX2_readRule_34) (fX2_readRule_25))))
theorem sX2_readRule_17 : SX2_readRule 17 (fX2_readRule_17) := k_aload_n dX2_readRule_17 rfl (k_aload_n dX2_readRule_18 rfl (k_callV (q := (RX2, TX2, 6)) dX2_readRule_19 cX2_readContext_ct rfl (kv_goodV mw_240 mw_242 sel_X2_readContext mw_2 mw_243) (by decide +kernel) rfl (by decide) (by decide) (k_ifeq dX2_readRule_22 rfl (sX2_readRule_34) (sX2_readRule_25))))
def fX2_readRule_0 : kv_D := o_aload 0 (o_const 0 (o_putf 2 2 .int (o_aload 0 (o_const 0 (o_putf 2 5 .boolean (o_aload 0 (o_callV 2 0 mX2_hasOpeningBrace (o_ifeq (fX2_readRule_36) (fX2_readRule_17)))))))))
theorem sX2_readRule_0 : SX2_readRule 0 (fX2_readRule_0) := k_aload_n dX2_readRule_0 rfl (k_iconst dX2_readRule_1 (by decide +kernel) (k_putf (C := RX2) (T := TX2) (N := 6) (ci := 2) (index := 19) (kf := 2) (ty := .int) dX2_readRule_2 rfl (fun w h => List.mem_cons_of_mem _ (inX2 w h)) tyX2 tyX2_ok nmX2 (by decide) (List.mem_cons_of_mem _ mw_29) rfl rfl (k_aload_n dX2_readRule_5 rfl (k_iconst dX2_readRule_6 (by decide +kernel) (k_putf (C := RX2) (T := TX2) (N := 6) (ci := 2) (index := 29) (kf := 5) (ty := .boolean) dX2_readRule_7 rfl (fun w h => List.mem_cons_of_mem _ (inX2 w h)) tyX2 tyX2_ok nmX2 (by decide) (List.mem_cons_of_mem _ mw_32) rfl rfl (k_aload_n dX2_readRule_10 rfl (k_callV (q := (RX2, TX2, 6)) dX2_readRule_11 cX2_hasOpeningBrace_ct rfl (kv_goodV mw_236 mw_238 sel_X2_hasOpeningBrace mw_2 mw_239) (by decide +kernel) rfl (by decide) (by decide) (k_ifeq dX2_readRule_14 rfl (sX2_readRule_36) (sX2_readRule_17)))))))))
def mX2_readRule : kv_M := kv_in 2 2 (fX2_readRule_0)
theorem cX2_readRule_ct : kv_CT yX2_readRule wX2_readRule 4 91 mX2_readRule := kv_met (by decide) rfl rfl (by decide) (fun h => by cases h) (sX2_readRule_0)
-- X1_isTooLarge
def wX1_isTooLarge : List Cond := Cond.code yX1_isTooLarge cX1_isTooLarge 1 (some .boolean) :: kv_tb
abbrev SX1_isTooLarge (pc : Nat) (F : kv_D) : Prop := kv_S cX1_isTooLarge 1 RX1 wX1_isTooLarge (some .boolean) false 0 0 none pc F
def fX1_isTooLarge_31 : kv_D := o_iret .boolean
theorem sX1_isTooLarge_31 : SX1_isTooLarge 31 (fX1_isTooLarge_31) := k_iret dX1_isTooLarge_31 rfl
def fX1_isTooLarge_30 : kv_D := o_const 0 ((fX1_isTooLarge_31))
theorem sX1_isTooLarge_30 : SX1_isTooLarge 30 (fX1_isTooLarge_30) := k_iconst dX1_isTooLarge_30 (by decide +kernel) ((sX1_isTooLarge_31))
def fX1_isTooLarge_26 : kv_D := o_const 1 ((fX1_isTooLarge_31))
theorem sX1_isTooLarge_26 : SX1_isTooLarge 26 (fX1_isTooLarge_26) := k_iconst dX1_isTooLarge_26 (by decide +kernel) (k_goto dX1_isTooLarge_27 rfl (sX1_isTooLarge_31))
def fX1_isTooLarge_17 : kv_D := o_aload 0 (o_getf 1 11 (o_const 12 (o_icle (fX1_isTooLarge_30) (fX1_isTooLarge_26))))
theorem sX1_isTooLarge_17 : SX1_isTooLarge 17 (fX1_isTooLarge_17) := k_aload_n dX1_isTooLarge_17 rfl (k_getf (C := RX1) (T := TX1) (N := 14) (ci := 1) (index := 48) (kf := 11) dX1_isTooLarge_18 rfl (fun w h => List.mem_cons_of_mem _ (inX1 w h)) (by decide) (List.mem_cons_of_mem _ mw_81) (k_bipush dX1_isTooLarge_21 (by decide +kernel) (k_icle dX1_isTooLarge_23 rfl (sX1_isTooLarge_30) (sX1_isTooLarge_26))))
def fX1_isTooLarge_9 : kv_D := o_aload 0 (o_getf 1 9 (o_const 3 (o_icgt (fX1_isTooLarge_26) (fX1_isTooLarge_17))))
theorem sX1_isTooLarge_9 : SX1_isTooLarge 9 (fX1_isTooLarge_9) := k_aload_n dX1_isTooLarge_9 rfl (k_getf (C := RX1) (T := TX1) (N := 14) (ci := 1) (index := 41) (kf := 9) dX1_isTooLarge_10 rfl (fun w h => List.mem_cons_of_mem _ (inX1 w h)) (by decide) (List.mem_cons_of_mem _ mw_77) (k_iconst dX1_isTooLarge_13 (by decide +kernel) (k_icgt dX1_isTooLarge_14 rfl (sX1_isTooLarge_26) (sX1_isTooLarge_17))))
def fX1_isTooLarge_0 : kv_D := o_aload 0 (o_getf 1 3 (o_const 12 (o_icgt (fX1_isTooLarge_26) (fX1_isTooLarge_9))))
theorem sX1_isTooLarge_0 : SX1_isTooLarge 0 (fX1_isTooLarge_0) := k_aload_n dX1_isTooLarge_0 rfl (k_getf (C := RX1) (T := TX1) (N := 14) (ci := 1) (index := 21) (kf := 3) dX1_isTooLarge_1 rfl (fun w h => List.mem_cons_of_mem _ (inX1 w h)) (by decide) (List.mem_cons_of_mem _ mw_62) (k_bipush dX1_isTooLarge_4 (by decide +kernel) (k_icgt dX1_isTooLarge_6 rfl (sX1_isTooLarge_26) (sX1_isTooLarge_9))))
def mX1_isTooLarge : kv_M := kv_in 1 1 (fX1_isTooLarge_0)
theorem cX1_isTooLarge_ct : kv_CT yX1_isTooLarge wX1_isTooLarge 0 0 mX1_isTooLarge := kv_met (by decide) rfl rfl (by decide) (fun h => by cases h) (sX1_isTooLarge_0)
-- X1_masks
def wX1_masks : List Cond := Cond.code yX1_masks cX1_masks 4 (some .boolean) :: kv_tb
abbrev SX1_masks (pc : Nat) (F : kv_D) : Prop := kv_S cX1_masks 4 RX1 wX1_masks (some .boolean) false 0 0 none pc F
def fX1_masks_81 (K : Nat → kv_D) : kv_D := o_const 1 (o_iret .boolean)
theorem sX1_masks_81 {K : Nat → kv_D} (hK : ∀ pc, SX1_masks pc (K pc)) : SX1_masks 81 (fX1_masks_81 K) := k_iconst dX1_masks_81 (by decide +kernel) (k_iret dX1_masks_82 rfl)
theorem nX1_masks_81 : kv_cn (fun K => fX1_masks_81 K) := cn_const 1 (cn_c _)
def fX1_masks_75 (K : Nat → kv_D) : kv_D := o_iinc 3 1 ((K 45))
theorem sX1_masks_75 {K : Nat → kv_D} (hK : ∀ pc, SX1_masks pc (K pc)) : SX1_masks 75 (fX1_masks_75 K) := k_iinc dX1_masks_75 (by decide +kernel) (by decide) (k_goto dX1_masks_78 rfl (hK 45))
theorem nX1_masks_75 : kv_cn (fun K => fX1_masks_75 K) := cn_iinc 3 1 ((cn_K 45))
def fX1_masks_73 (K : Nat → kv_D) : kv_D := o_const 0 (o_iret .boolean)
theorem sX1_masks_73 {K : Nat → kv_D} (hK : ∀ pc, SX1_masks pc (K pc)) : SX1_masks 73 (fX1_masks_73 K) := k_iconst dX1_masks_73 (by decide +kernel) (k_iret dX1_masks_74 rfl)
theorem nX1_masks_73 : kv_cn (fun K => fX1_masks_73 K) := cn_const 0 (cn_c _)
def fX1_masks_53 (K : Nat → kv_D) : kv_D := o_aload 1 (o_getf 1 0 (o_iload 3 (o_iload 2 (o_iadd (o_iald 0 (o_aload 0 (o_getf 1 0 (o_iload 3 (o_iald 0 (o_const (-1) (o_ixor (o_iand (o_ifeq (fX1_masks_75 K) (fX1_masks_73 K))))))))))))))
theorem sX1_masks_53 {K : Nat → kv_D} (hK : ∀ pc, SX1_masks pc (K pc)) : SX1_masks 53 (fX1_masks_53 K) := k_aload_n dX1_masks_53 rfl (k_getf (C := RX1) (T := TX1) (N := 14) (ci := 1) (index := 9) (kf := 0) dX1_masks_54 rfl (fun w h => List.mem_cons_of_mem _ (inX1 w h)) (by decide) (List.mem_cons_of_mem _ mw_56) (k_iload_n dX1_masks_57 rfl (k_iload_n dX1_masks_58 rfl (k_iadd dX1_masks_59 (k_iald dX1_masks_60 rfl (k_aload_n dX1_masks_61 rfl (k_getf (C := RX1) (T := TX1) (N := 14) (ci := 1) (index := 9) (kf := 0) dX1_masks_62 rfl (fun w h => List.mem_cons_of_mem _ (inX1 w h)) (by decide) (List.mem_cons_of_mem _ mw_56) (k_iload_n dX1_masks_65 rfl (k_iald dX1_masks_66 rfl (k_iconst dX1_masks_67 (by decide +kernel) (k_ixor dX1_masks_68 (k_iand dX1_masks_69 (k_ifeq dX1_masks_70 rfl (sX1_masks_75 hK) (sX1_masks_73 hK))))))))))))))
theorem nX1_masks_53 : kv_cn (fun K => fX1_masks_53 K) := cn_aload 1 (cn_getf 1 0 (cn_iload 3 (cn_iload 2 (cn_iadd (cn_iald 0 (cn_aload 0 (cn_getf 1 0 (cn_iload 3 (cn_iald 0 (cn_const (-1) (cn_ixor (cn_iand (cn_ifeq nX1_masks_75 nX1_masks_73)))))))))))))
def fX1_masks_45 (K : Nat → kv_D) : kv_D := o_iload 3 (o_aload 0 (o_getf 1 3 (o_icge (fX1_masks_81 K) (fX1_masks_53 K))))
theorem sX1_masks_45 {K : Nat → kv_D} (hK : ∀ pc, SX1_masks pc (K pc)) : SX1_masks 45 (fX1_masks_45 K) := k_iload_n dX1_masks_45 rfl (k_aload_n dX1_masks_46 rfl (k_getf (C := RX1) (T := TX1) (N := 14) (ci := 1) (index := 21) (kf := 3) dX1_masks_47 rfl (fun w h => List.mem_cons_of_mem _ (inX1 w h)) (by decide) (List.mem_cons_of_mem _ mw_62) (k_icge dX1_masks_50 rfl (sX1_masks_81 hK) (sX1_masks_53 hK))))
theorem nX1_masks_45 : kv_cn (fun K => fX1_masks_45 K) := cn_iload 3 (cn_aload 0 (cn_getf 1 3 (cn_icge nX1_masks_81 nX1_masks_53)))
def fX1_masks_43 (K : Nat → kv_D) : kv_D := o_const 0 (o_istore 3 ((K 45)))
theorem sX1_masks_43 {K : Nat → kv_D} (hK : ∀ pc, SX1_masks pc (K pc)) : SX1_masks 43 (fX1_masks_43 K) := k_iconst dX1_masks_43 (by decide +kernel) (k_istore_n dX1_masks_44 rfl (by decide) ((hK 45)))
theorem nX1_masks_43 : kv_cn (fun K => fX1_masks_43 K) := cn_const 0 (cn_istore 3 ((cn_K 45)))
def fX1_masks_41 (K : Nat → kv_D) : kv_D := o_const 0 (o_iret .boolean)
theorem sX1_masks_41 {K : Nat → kv_D} (hK : ∀ pc, SX1_masks pc (K pc)) : SX1_masks 41 (fX1_masks_41 K) := k_iconst dX1_masks_41 (by decide +kernel) (k_iret dX1_masks_42 rfl)
theorem nX1_masks_41 : kv_cn (fun K => fX1_masks_41 K) := cn_const 0 (cn_c _)
def fX1_masks_28 (K : Nat → kv_D) : kv_D := o_aload 0 (o_getf 1 3 (o_iload 2 (o_iadd (o_aload 1 (o_getf 1 3 (o_icle (fX1_masks_43 K) (fX1_masks_41 K)))))))
theorem sX1_masks_28 {K : Nat → kv_D} (hK : ∀ pc, SX1_masks pc (K pc)) : SX1_masks 28 (fX1_masks_28 K) := k_aload_n dX1_masks_28 rfl (k_getf (C := RX1) (T := TX1) (N := 14) (ci := 1) (index := 21) (kf := 3) dX1_masks_29 rfl (fun w h => List.mem_cons_of_mem _ (inX1 w h)) (by decide) (List.mem_cons_of_mem _ mw_62) (k_iload_n dX1_masks_32 rfl (k_iadd dX1_masks_33 (k_aload_n dX1_masks_34 rfl (k_getf (C := RX1) (T := TX1) (N := 14) (ci := 1) (index := 21) (kf := 3) dX1_masks_35 rfl (fun w h => List.mem_cons_of_mem _ (inX1 w h)) (by decide) (List.mem_cons_of_mem _ mw_62) (k_icle dX1_masks_38 rfl (sX1_masks_43 hK) (sX1_masks_41 hK)))))))
theorem nX1_masks_28 : kv_cn (fun K => fX1_masks_28 K) := cn_aload 0 (cn_getf 1 3 (cn_iload 2 (cn_iadd (cn_aload 1 (cn_getf 1 3 (cn_icle nX1_masks_43 nX1_masks_41))))))
def fX1_masks_24 (K : Nat → kv_D) : kv_D := o_iload 2 (o_iflt (fX1_masks_41 K) (fX1_masks_28 K))
theorem sX1_masks_24 {K : Nat → kv_D} (hK : ∀ pc, SX1_masks pc (K pc)) : SX1_masks 24 (fX1_masks_24 K) := k_iload_n dX1_masks_24 rfl (k_iflt dX1_masks_25 rfl (sX1_masks_41 hK) (sX1_masks_28 hK))
theorem nX1_masks_24 : kv_cn (fun K => fX1_masks_24 K) := cn_iload 2 (cn_iflt nX1_masks_41 nX1_masks_28)
def fX1_masks_17 (K : Nat → kv_D) : kv_D := o_aload 1 (o_getf 1 6 (o_ifne (fX1_masks_41 K) (fX1_masks_24 K)))
theorem sX1_masks_17 {K : Nat → kv_D} (hK : ∀ pc, SX1_masks pc (K pc)) : SX1_masks 17 (fX1_masks_17 K) := k_aload_n dX1_masks_17 rfl (k_getf (C := RX1) (T := TX1) (N := 14) (ci := 1) (index := 31) (kf := 6) dX1_masks_18 rfl (fun w h => List.mem_cons_of_mem _ (inX1 w h)) (by decide) (List.mem_cons_of_mem _ mw_72) (k_ifne dX1_masks_21 rfl (sX1_masks_41 hK) (sX1_masks_24 hK)))
theorem nX1_masks_17 : kv_cn (fun K => fX1_masks_17 K) := cn_aload 1 (cn_getf 1 6 (cn_ifne nX1_masks_41 nX1_masks_24))
def fX1_masks_0 (K : Nat → kv_D) : kv_D := o_aload 1 (o_getf 1 4 (o_aload 0 (o_getf 1 4 (o_isub (o_istore 2 (o_aload 0 (o_getf 1 6 (o_ifne (fX1_masks_41 K) (fX1_masks_17 K)))))))))
theorem sX1_masks_0 {K : Nat → kv_D} (hK : ∀ pc, SX1_masks pc (K pc)) : SX1_masks 0 (fX1_masks_0 K) := k_aload_n dX1_masks_0 rfl (k_getf (C := RX1) (T := TX1) (N := 14) (ci := 1) (index := 25) (kf := 4) dX1_masks_1 rfl (fun w h => List.mem_cons_of_mem _ (inX1 w h)) (by decide) (List.mem_cons_of_mem _ mw_65) (k_aload_n dX1_masks_4 rfl (k_getf (C := RX1) (T := TX1) (N := 14) (ci := 1) (index := 25) (kf := 4) dX1_masks_5 rfl (fun w h => List.mem_cons_of_mem _ (inX1 w h)) (by decide) (List.mem_cons_of_mem _ mw_65) (k_isub dX1_masks_8 (k_istore_n dX1_masks_9 rfl (by decide) (k_aload_n dX1_masks_10 rfl (k_getf (C := RX1) (T := TX1) (N := 14) (ci := 1) (index := 31) (kf := 6) dX1_masks_11 rfl (fun w h => List.mem_cons_of_mem _ (inX1 w h)) (by decide) (List.mem_cons_of_mem _ mw_72) (k_ifne dX1_masks_14 rfl (sX1_masks_41 hK) (sX1_masks_17 hK)))))))))
theorem nX1_masks_0 : kv_cn (fun K => fX1_masks_0 K) := cn_aload 1 (cn_getf 1 4 (cn_aload 0 (cn_getf 1 4 (cn_isub (cn_istore 2 (cn_aload 0 (cn_getf 1 6 (cn_ifne nX1_masks_41 nX1_masks_17))))))))
def bX1_masks (K : Nat → kv_D) (pc : Nat) : kv_D := if pc = 45 then fX1_masks_45 K else fun _ _ _ _ _ => False
theorem hX1_masks : ∀ pc, SX1_masks pc (kv_lim (bX1_masks) pc) := kv_lim_S (fun K hK pc => by
  unfold bX1_masks
  by_cases q45 : pc = 45
  · rw [if_pos q45, q45]
    exact sX1_masks_45 hK
  rw [if_neg q45]
  exact kv_none)
theorem uX1_masks_45 {L : List (Option Value)} {st : List Value} {h : kv_H} {v : Option Value} {h' : kv_H} (hx : fX1_masks_45 (kv_lim (bX1_masks)) L st h v h') : kv_lim (bX1_masks) 45 L st h v h' := kv_un (q := 45) (by have e : (fun K => bX1_masks K 45) = fun K => fX1_masks_45 K := (by funext K; rfl); rw [e]; exact nX1_masks_45) (by have e : bX1_masks (kv_lim (bX1_masks)) 45 = fX1_masks_45 (kv_lim (bX1_masks)) := rfl; rw [e]; exact hx)
def mX1_masks : kv_M := kv_in 2 4 (fX1_masks_0 (kv_lim (bX1_masks)))
theorem cX1_masks_ct : kv_CT yX1_masks wX1_masks 0 0 mX1_masks := kv_met (by decide) rfl rfl (by decide) (fun h => by cases h) (sX1_masks_0 (hX1_masks))
-- X4_isMasked
def wX4_isMasked : List Cond := Cond.code yX4_isMasked cX4_isMasked 3 (some .boolean) :: kv_tb
abbrev SX4_isMasked (pc : Nat) (F : kv_D) : Prop := kv_S cX4_isMasked 3 RX4 wX4_isMasked (some .boolean) false 1 23 none pc F
def fX4_isMasked_31 (K : Nat → kv_D) : kv_D := o_const 0 (o_iret .boolean)
theorem sX4_isMasked_31 {K : Nat → kv_D} (hK : ∀ pc, SX4_isMasked pc (K pc)) : SX4_isMasked 31 (fX4_isMasked_31 K) := k_iconst dX4_isMasked_31 (by decide +kernel) (k_iret dX4_isMasked_32 rfl)
theorem nX4_isMasked_31 : kv_cn (fun K => fX4_isMasked_31 K) := cn_const 0 (cn_c _)
def fX4_isMasked_25 (K : Nat → kv_D) : kv_D := o_iinc 2 1 ((K 2))
theorem sX4_isMasked_25 {K : Nat → kv_D} (hK : ∀ pc, SX4_isMasked pc (K pc)) : SX4_isMasked 25 (fX4_isMasked_25 K) := k_iinc dX4_isMasked_25 (by decide +kernel) (by decide) (k_goto dX4_isMasked_28 rfl (hK 2))
theorem nX4_isMasked_25 : kv_cn (fun K => fX4_isMasked_25 K) := cn_iinc 2 1 ((cn_K 2))
def fX4_isMasked_23 (K : Nat → kv_D) : kv_D := o_const 1 (o_iret .boolean)
theorem sX4_isMasked_23 {K : Nat → kv_D} (hK : ∀ pc, SX4_isMasked pc (K pc)) : SX4_isMasked 23 (fX4_isMasked_23 K) := k_iconst dX4_isMasked_23 (by decide +kernel) (k_iret dX4_isMasked_24 rfl)
theorem nX4_isMasked_23 : kv_cn (fun K => fX4_isMasked_23 K) := cn_const 1 (cn_c _)
def fX4_isMasked_10 (K : Nat → kv_D) : kv_D := o_aload 0 (o_getf 4 1 (o_iload 2 (o_aald 2 (o_aload 1 (o_callV 1 1 mX1_masks (o_ifeq (fX4_isMasked_25 K) (fX4_isMasked_23 K)))))))
theorem sX4_isMasked_10 {K : Nat → kv_D} (hK : ∀ pc, SX4_isMasked pc (K pc)) : SX4_isMasked 10 (fX4_isMasked_10 K) := k_aload_n dX4_isMasked_10 rfl (k_getf (C := RX4) (T := TX4) (N := 8) (ci := 4) (index := 18) (kf := 1) dX4_isMasked_11 rfl (fun w h => List.mem_cons_of_mem _ (inX4 w h)) (by decide) (List.mem_cons_of_mem _ mw_154) (k_iload_n dX4_isMasked_14 rfl (k_aald dX4_isMasked_15 rfl (k_aload_n dX4_isMasked_16 rfl (k_callV (q := (RX1, TX1, 14)) dX4_isMasked_17 cX1_masks_ct rfl (kv_goodV mw_283 mw_284 mw_285 mw_3 mw_286) (by decide +kernel) rfl (by decide) (by decide) (k_ifeq dX4_isMasked_20 rfl (sX4_isMasked_25 hK) (sX4_isMasked_23 hK)))))))
theorem nX4_isMasked_10 : kv_cn (fun K => fX4_isMasked_10 K) := cn_aload 0 (cn_getf 4 1 (cn_iload 2 (cn_aald 2 (cn_aload 1 (cn_callV 1 1 mX1_masks (cn_ifeq nX4_isMasked_25 nX4_isMasked_23))))))
def fX4_isMasked_2 (K : Nat → kv_D) : kv_D := o_iload 2 (o_aload 0 (o_getf 4 2 (o_icge (fX4_isMasked_31 K) (fX4_isMasked_10 K))))
theorem sX4_isMasked_2 {K : Nat → kv_D} (hK : ∀ pc, SX4_isMasked pc (K pc)) : SX4_isMasked 2 (fX4_isMasked_2 K) := k_iload_n dX4_isMasked_2 rfl (k_aload_n dX4_isMasked_3 rfl (k_getf (C := RX4) (T := TX4) (N := 8) (ci := 4) (index := 23) (kf := 2) dX4_isMasked_4 rfl (fun w h => List.mem_cons_of_mem _ (inX4 w h)) (by decide) (List.mem_cons_of_mem _ mw_155) (k_icge dX4_isMasked_7 rfl (sX4_isMasked_31 hK) (sX4_isMasked_10 hK))))
theorem nX4_isMasked_2 : kv_cn (fun K => fX4_isMasked_2 K) := cn_iload 2 (cn_aload 0 (cn_getf 4 2 (cn_icge nX4_isMasked_31 nX4_isMasked_10)))
def fX4_isMasked_0 (K : Nat → kv_D) : kv_D := o_const 0 (o_istore 2 ((K 2)))
theorem sX4_isMasked_0 {K : Nat → kv_D} (hK : ∀ pc, SX4_isMasked pc (K pc)) : SX4_isMasked 0 (fX4_isMasked_0 K) := k_iconst dX4_isMasked_0 (by decide +kernel) (k_istore_n dX4_isMasked_1 rfl (by decide) ((hK 2)))
theorem nX4_isMasked_0 : kv_cn (fun K => fX4_isMasked_0 K) := cn_const 0 (cn_istore 2 ((cn_K 2)))
def bX4_isMasked (K : Nat → kv_D) (pc : Nat) : kv_D := if pc = 2 then fX4_isMasked_2 K else fun _ _ _ _ _ => False
theorem hX4_isMasked : ∀ pc, SX4_isMasked pc (kv_lim (bX4_isMasked) pc) := kv_lim_S (fun K hK pc => by
  unfold bX4_isMasked
  by_cases q2 : pc = 2
  · rw [if_pos q2, q2]
    exact sX4_isMasked_2 hK
  rw [if_neg q2]
  exact kv_none)
theorem uX4_isMasked_2 {L : List (Option Value)} {st : List Value} {h : kv_H} {v : Option Value} {h' : kv_H} (hx : fX4_isMasked_2 (kv_lim (bX4_isMasked)) L st h v h') : kv_lim (bX4_isMasked) 2 L st h v h' := kv_un (q := 2) (by have e : (fun K => bX4_isMasked K 2) = fun K => fX4_isMasked_2 K := (by funext K; rfl); rw [e]; exact nX4_isMasked_2) (by have e : bX4_isMasked (kv_lim (bX4_isMasked)) 2 = fX4_isMasked_2 (kv_lim (bX4_isMasked)) := rfl; rw [e]; exact hx)
def mX4_isMasked : kv_M := kv_in 2 3 (fX4_isMasked_0 (kv_lim (bX4_isMasked)))
theorem cX4_isMasked_ct : kv_CT yX4_isMasked wX4_isMasked 1 23 mX4_isMasked := kv_met (by decide) rfl rfl (by decide) (fun h => by cases h) (sX4_isMasked_0 (hX4_isMasked))
-- X4_endRule
def wX4_endRule : List Cond := Cond.code yX4_endRule cX4_endRule 2 (some .int) :: kv_tb
abbrev SX4_endRule (pc : Nat) (F : kv_D) : Prop := kv_S cX4_endRule 2 RX4 wX4_endRule (some .int) false 5 112 none pc F
def fX4_endRule_84 : kv_D := o_aload 0 (o_dup (o_getf 4 2 (o_const 1 (o_iadd (o_putf 4 2 .int (o_const 10 (o_aload 0 (o_getf 4 2 (o_iadd (o_const 1 (o_isub (o_iret .int))))))))))))
theorem sX4_endRule_84 : SX4_endRule 84 (fX4_endRule_84) := k_aload_n dX4_endRule_84 rfl (k_dup dX4_endRule_85 (k_getf (C := RX4) (T := TX4) (N := 8) (ci := 4) (index := 23) (kf := 2) dX4_endRule_86 rfl (fun w h => List.mem_cons_of_mem _ (inX4 w h)) (by decide) (List.mem_cons_of_mem _ mw_155) (k_iconst dX4_endRule_89 (by decide +kernel) (k_iadd dX4_endRule_90 (k_putf (C := RX4) (T := TX4) (N := 8) (ci := 4) (index := 23) (kf := 2) (ty := .int) dX4_endRule_91 rfl (fun w h => List.mem_cons_of_mem _ (inX4 w h)) tyX4 tyX4_ok nmX4 (by decide) (List.mem_cons_of_mem _ mw_155) rfl rfl (k_bipush dX4_endRule_94 (by decide +kernel) (k_aload_n dX4_endRule_96 rfl (k_getf (C := RX4) (T := TX4) (N := 8) (ci := 4) (index := 23) (kf := 2) dX4_endRule_97 rfl (fun w h => List.mem_cons_of_mem _ (inX4 w h)) (by decide) (List.mem_cons_of_mem _ mw_155) (k_iadd dX4_endRule_100 (k_iconst dX4_endRule_101 (by decide +kernel) (k_isub dX4_endRule_102 (k_iret dX4_endRule_103 rfl))))))))))))
def fX4_endRule_81 : kv_D := o_const (-5) (o_iret .int)
theorem sX4_endRule_81 : SX4_endRule 81 (fX4_endRule_81) := k_bipush dX4_endRule_81 (by decide +kernel) (k_iret dX4_endRule_83 rfl)
def fX4_endRule_73 : kv_D := o_aload 0 (o_aload 1 (o_callV 4 1 mX4_isMasked (o_ifeq (fX4_endRule_84) (fX4_endRule_81))))
theorem sX4_endRule_73 : SX4_endRule 73 (fX4_endRule_73) := k_aload_n dX4_endRule_73 rfl (k_aload_n dX4_endRule_74 rfl (k_callV (q := (RX4, TX4, 8)) dX4_endRule_75 cX4_isMasked_ct rfl (kv_goodV mw_279 mw_281 sel_X4_isMasked mw_1 mw_282) (by decide +kernel) rfl (by decide) (by decide) (k_ifeq dX4_endRule_78 rfl (sX4_endRule_84) (sX4_endRule_81))))
def fX4_endRule_70 : kv_D := o_const (-4) (o_iret .int)
theorem sX4_endRule_70 : SX4_endRule 70 (fX4_endRule_70) := k_bipush dX4_endRule_70 (by decide +kernel) (k_iret dX4_endRule_72 rfl)
def fX4_endRule_63 : kv_D := o_aload 1 (o_callV 1 0 mX1_isTooLarge (o_ifeq (fX4_endRule_73) (fX4_endRule_70)))
theorem sX4_endRule_63 : SX4_endRule 63 (fX4_endRule_63) := k_aload_n dX4_endRule_63 rfl (k_callV (q := (RX1, TX1, 14)) dX4_endRule_64 cX1_isTooLarge_ct rfl (kv_goodV mw_275 mw_276 mw_277 mw_3 mw_278) (by decide +kernel) rfl (by decide) (by decide) (k_ifeq dX4_endRule_67 rfl (sX4_endRule_73) (sX4_endRule_70)))
def fX4_endRule_54 : kv_D := o_aload 0 (o_getf 4 2 (o_const 8 (o_icge (fX4_endRule_70) (fX4_endRule_63))))
theorem sX4_endRule_54 : SX4_endRule 54 (fX4_endRule_54) := k_aload_n dX4_endRule_54 rfl (k_getf (C := RX4) (T := TX4) (N := 8) (ci := 4) (index := 23) (kf := 2) dX4_endRule_55 rfl (fun w h => List.mem_cons_of_mem _ (inX4 w h)) (by decide) (List.mem_cons_of_mem _ mw_155) (k_bipush dX4_endRule_58 (by decide +kernel) (k_icge dX4_endRule_60 rfl (sX4_endRule_70) (sX4_endRule_63))))
def fX4_endRule_51 : kv_D := o_const (-3) (o_iret .int)
theorem sX4_endRule_51 : SX4_endRule 51 (fX4_endRule_51) := k_bipush dX4_endRule_51 (by decide +kernel) (k_iret dX4_endRule_53 rfl)
def fX4_endRule_40 : kv_D := o_aload 1 (o_getf 1 12 (o_aload 1 (o_getf 1 9 (o_icle (fX4_endRule_54) (fX4_endRule_51)))))
theorem sX4_endRule_40 : SX4_endRule 40 (fX4_endRule_40) := k_aload_n dX4_endRule_40 rfl (k_getN (C := RX1) (T := TX1) (N := 14) (ci := 1) (index := 114) (kf := 12) dX4_endRule_41 rfl (fun w h => List.mem_cons_of_mem _ (inX1 w h)) (by decide) mw_85 (k_aload_n dX4_endRule_44 rfl (k_getN (C := RX1) (T := TX1) (N := 14) (ci := 1) (index := 117) (kf := 9) dX4_endRule_45 rfl (fun w h => List.mem_cons_of_mem _ (inX1 w h)) (by decide) mw_78 (k_icle dX4_endRule_48 rfl (sX4_endRule_54) (sX4_endRule_51)))))
def fX4_endRule_37 : kv_D := o_const (-2) (o_iret .int)
theorem sX4_endRule_37 : SX4_endRule 37 (fX4_endRule_37) := k_bipush dX4_endRule_37 (by decide +kernel) (k_iret dX4_endRule_39 rfl)
def fX4_endRule_27 : kv_D := o_aload 0 (o_getf 4 0 (o_getf 2 5 (o_ifeq (fX4_endRule_40) (fX4_endRule_37))))
theorem sX4_endRule_27 : SX4_endRule 27 (fX4_endRule_27) := k_aload_n dX4_endRule_27 rfl (k_getf (C := RX4) (T := TX4) (N := 8) (ci := 4) (index := 12) (kf := 0) dX4_endRule_28 rfl (fun w h => List.mem_cons_of_mem _ (inX4 w h)) (by decide) (List.mem_cons_of_mem _ mw_153) (k_getN (C := RX2) (T := TX2) (N := 6) (ci := 2) (index := 103) (kf := 5) dX4_endRule_31 rfl (fun w h => List.mem_cons_of_mem _ (inX2 w h)) (by decide) mw_33 (k_ifeq dX4_endRule_34 rfl (sX4_endRule_40) (sX4_endRule_37))))
def fX4_endRule_25 : kv_D := o_const (-1) (o_iret .int)
theorem sX4_endRule_25 : SX4_endRule 25 (fX4_endRule_25) := k_iconst dX4_endRule_25 (by decide +kernel) (k_iret dX4_endRule_26 rfl)
def fX4_endRule_0 : kv_D := o_aload 0 (o_getf 4 1 (o_aload 0 (o_getf 4 2 (o_aald 2 (o_astore 1 (o_aload 1 (o_callV 1 0 mX1_clear (o_aload 0 (o_getf 4 0 (o_aload 1 (o_callV 2 1 mX2_readRule (o_ifne (fX4_endRule_27) (fX4_endRule_25)))))))))))))
theorem sX4_endRule_0 : SX4_endRule 0 (fX4_endRule_0) := k_aload_n dX4_endRule_0 rfl (k_getf (C := RX4) (T := TX4) (N := 8) (ci := 4) (index := 18) (kf := 1) dX4_endRule_1 rfl (fun w h => List.mem_cons_of_mem _ (inX4 w h)) (by decide) (List.mem_cons_of_mem _ mw_154) (k_aload_n dX4_endRule_4 rfl (k_getf (C := RX4) (T := TX4) (N := 8) (ci := 4) (index := 23) (kf := 2) dX4_endRule_5 rfl (fun w h => List.mem_cons_of_mem _ (inX4 w h)) (by decide) (List.mem_cons_of_mem _ mw_155) (k_aald dX4_endRule_8 rfl (k_astore_n dX4_endRule_9 rfl (by decide) (k_aload_n dX4_endRule_10 rfl (k_callV (q := (RX1, TX1, 14)) dX4_endRule_11 cX1_clear_ct rfl (kv_goodV mw_228 mw_229 mw_230 mw_3 mw_231) (by decide +kernel) rfl (by decide) (by decide) (k_aload_n dX4_endRule_14 rfl (k_getf (C := RX4) (T := TX4) (N := 8) (ci := 4) (index := 12) (kf := 0) dX4_endRule_15 rfl (fun w h => List.mem_cons_of_mem _ (inX4 w h)) (by decide) (List.mem_cons_of_mem _ mw_153) (k_aload_n dX4_endRule_18 rfl (k_callV (q := (RX2, TX2, 6)) dX4_endRule_19 cX2_readRule_ct rfl (kv_goodV mw_232 mw_233 mw_234 mw_2 mw_235) (by decide +kernel) rfl (by decide) (by decide) (k_ifne dX4_endRule_22 rfl (sX4_endRule_27) (sX4_endRule_25)))))))))))))
def mX4_endRule : kv_M := kv_in 1 2 (fX4_endRule_0)
theorem cX4_endRule_ct : kv_CT yX4_endRule wX4_endRule 5 112 mX4_endRule := kv_met (by decide) rfl rfl (by decide) (fun h => by cases h) (sX4_endRule_0)
-- X2_clear
def wX2_clear : List Cond := Cond.code yX2_clear cX2_clear 1 none :: kv_tb
abbrev SX2_clear (pc : Nat) (F : kv_D) : Prop := kv_S cX2_clear 1 RX2 wX2_clear none false 0 0 none pc F
def fX2_clear_0 : kv_D := o_aload 0 (o_const 0 (o_putf 2 1 .int (o_ret)))
theorem sX2_clear_0 : SX2_clear 0 (fX2_clear_0) := k_aload_n dX2_clear_0 rfl (k_iconst dX2_clear_1 (by decide +kernel) (k_putf (C := RX2) (T := TX2) (N := 6) (ci := 2) (index := 15) (kf := 1) (ty := .int) dX2_clear_2 rfl (fun w h => List.mem_cons_of_mem _ (inX2 w h)) tyX2 tyX2_ok nmX2 (by decide) (List.mem_cons_of_mem _ mw_28) rfl rfl (k_ret dX2_clear_5 rfl)))
def mX2_clear : kv_M := kv_in 1 1 (fX2_clear_0)
theorem cX2_clear_ct : kv_CT yX2_clear wX2_clear 0 0 mX2_clear := kv_met (by decide) rfl rfl (by decide) (fun h => by cases h) (sX2_clear_0)
-- X2_type
def wX2_type : List Cond := Cond.code yX2_type cX2_type 2 (some .boolean) :: kv_tb
abbrev SX2_type (pc : Nat) (F : kv_D) : Prop := kv_S cX2_type 2 RX2 wX2_type (some .boolean) false 0 0 none pc F
def fX2_type_11 : kv_D := o_aload 0 (o_getf 2 0 (o_aload 0 (o_getf 2 1 (o_iload 1 (o_iast 1 (vp_nar .char) (o_aload 0 (o_dup (o_getf 2 1 (o_const 1 (o_iadd (o_putf 2 1 .int (o_const 1 (o_iret .boolean)))))))))))))
theorem sX2_type_11 : SX2_type 11 (fX2_type_11) := k_aload_n dX2_type_11 rfl (k_getf (C := RX2) (T := TX2) (N := 6) (ci := 2) (index := 9) (kf := 0) dX2_type_12 rfl (fun w h => List.mem_cons_of_mem _ (inX2 w h)) (by decide) (List.mem_cons_of_mem _ mw_27) (k_aload_n dX2_type_15 rfl (k_getf (C := RX2) (T := TX2) (N := 6) (ci := 2) (index := 15) (kf := 1) dX2_type_16 rfl (fun w h => List.mem_cons_of_mem _ (inX2 w h)) (by decide) (List.mem_cons_of_mem _ mw_28) (k_iload_n dX2_type_19 rfl (k_cast dX2_type_20 rfl (k_aload_n dX2_type_21 rfl (k_dup dX2_type_22 (k_getf (C := RX2) (T := TX2) (N := 6) (ci := 2) (index := 15) (kf := 1) dX2_type_23 rfl (fun w h => List.mem_cons_of_mem _ (inX2 w h)) (by decide) (List.mem_cons_of_mem _ mw_28) (k_iconst dX2_type_26 (by decide +kernel) (k_iadd dX2_type_27 (k_putf (C := RX2) (T := TX2) (N := 6) (ci := 2) (index := 15) (kf := 1) (ty := .int) dX2_type_28 rfl (fun w h => List.mem_cons_of_mem _ (inX2 w h)) tyX2 tyX2_ok nmX2 (by decide) (List.mem_cons_of_mem _ mw_28) rfl rfl (k_iconst dX2_type_31 (by decide +kernel) (k_iret dX2_type_32 rfl)))))))))))))
def fX2_type_9 : kv_D := o_const 0 (o_iret .boolean)
theorem sX2_type_9 : SX2_type 9 (fX2_type_9) := k_iconst dX2_type_9 (by decide +kernel) (k_iret dX2_type_10 rfl)
def fX2_type_0 : kv_D := o_aload 0 (o_getf 2 1 (o_const 48 (o_iclt (fX2_type_11) (fX2_type_9))))
theorem sX2_type_0 : SX2_type 0 (fX2_type_0) := k_aload_n dX2_type_0 rfl (k_getf (C := RX2) (T := TX2) (N := 6) (ci := 2) (index := 15) (kf := 1) dX2_type_1 rfl (fun w h => List.mem_cons_of_mem _ (inX2 w h)) (by decide) (List.mem_cons_of_mem _ mw_28) (k_bipush dX2_type_4 (by decide +kernel) (k_iclt dX2_type_6 rfl (sX2_type_11) (sX2_type_9))))
def mX2_type : kv_M := kv_in 2 2 (fX2_type_0)
theorem cX2_type_ct : kv_CT yX2_type wX2_type 0 0 mX2_type := kv_met (by decide) rfl rfl (by decide) (fun h => by cases h) (sX2_type_0)
-- X4_code
def wX4_code : List Cond := Cond.code yX4_code cX4_code 3 (some .int) :: kv_tb
abbrev SX4_code (pc : Nat) (F : kv_D) : Prop := kv_S cX4_code 3 RX4 wX4_code (some .int) false 6 133 none pc F
def fX4_code_77 : kv_D := o_iret .int
theorem sX4_code_77 : SX4_code 77 (fX4_code_77) := k_iret dX4_code_77 rfl
def fX4_code_75 : kv_D := o_const (-6) ((fX4_code_77))
theorem sX4_code_75 : SX4_code 75 (fX4_code_75) := k_bipush dX4_code_75 (by decide +kernel) ((sX4_code_77))
def fX4_code_71 : kv_D := o_const 0 ((fX4_code_77))
theorem sX4_code_71 : SX4_code 71 (fX4_code_71) := k_iconst dX4_code_71 (by decide +kernel) (k_goto dX4_code_72 rfl (sX4_code_77))
def fX4_code_60 : kv_D := o_aload 0 (o_getf 4 0 (o_iload 1 (o_callV 2 1 mX2_type (o_ifeq (fX4_code_75) (fX4_code_71)))))
theorem sX4_code_60 : SX4_code 60 (fX4_code_60) := k_aload_n dX4_code_60 rfl (k_getf (C := RX4) (T := TX4) (N := 8) (ci := 4) (index := 12) (kf := 0) dX4_code_61 rfl (fun w h => List.mem_cons_of_mem _ (inX4 w h)) (by decide) (List.mem_cons_of_mem _ mw_153) (k_iload_n dX4_code_64 rfl (k_callV (q := (RX2, TX2, 6)) dX4_code_65 cX2_type_ct rfl (kv_goodV mw_291 mw_292 mw_293 mw_2 mw_294) (by decide +kernel) rfl (by decide) (by decide) (k_ifeq dX4_code_68 rfl (sX4_code_75) (sX4_code_71)))))
def fX4_code_50 : kv_D := o_istore 2 (o_aload 0 (o_getf 4 0 (o_callV 2 0 mX2_clear (o_iload 2 (o_iret .int)))))
theorem sX4_code_50 : SX4_code 50 (fX4_code_50) := k_istore_n dX4_code_50 rfl (by decide) (k_aload_n dX4_code_51 rfl (k_getf (C := RX4) (T := TX4) (N := 8) (ci := 4) (index := 12) (kf := 0) dX4_code_52 rfl (fun w h => List.mem_cons_of_mem _ (inX4 w h)) (by decide) (List.mem_cons_of_mem _ mw_153) (k_callV (q := (RX2, TX2, 6)) dX4_code_55 cX2_clear_ct rfl (kv_goodV mw_287 mw_288 mw_289 mw_2 mw_290) (by decide +kernel) rfl (by decide) (by decide) (k_iload_n dX4_code_58 rfl (k_iret dX4_code_59 rfl)))))
def fX4_code_46 : kv_D := o_aload 0 (o_callV 4 0 mX4_endRule ((fX4_code_50)))
theorem sX4_code_46 : SX4_code 46 (fX4_code_46) := k_aload_n dX4_code_46 rfl (k_callV (q := (RX4, TX4, 8)) dX4_code_47 cX4_endRule_ct rfl (kv_goodV mw_224 mw_226 sel_X4_endRule mw_1 mw_227) (by decide +kernel) rfl (by decide) (by decide) ((sX4_code_50)))
def fX4_code_39 : kv_D := o_aload 0 (o_callV 4 0 mX4_endDefinition ((fX4_code_50)))
theorem sX4_code_39 : SX4_code 39 (fX4_code_39) := k_aload_n dX4_code_39 rfl (k_callV (q := (RX4, TX4, 8)) dX4_code_40 cX4_endDefinition_ct rfl (kv_goodV mw_189 mw_191 sel_X4_endDefinition mw_1 mw_192) (by decide +kernel) rfl (by decide) (by decide) (k_goto dX4_code_43 rfl (sX4_code_50)))
def fX4_code_29 : kv_D := o_aload 0 (o_getf 4 0 (o_callV 2 0 mX2_looksLikeDefinition (o_ifeq (fX4_code_46) (fX4_code_39))))
theorem sX4_code_29 : SX4_code 29 (fX4_code_29) := k_aload_n dX4_code_29 rfl (k_getf (C := RX4) (T := TX4) (N := 8) (ci := 4) (index := 12) (kf := 0) dX4_code_30 rfl (fun w h => List.mem_cons_of_mem _ (inX4 w h)) (by decide) (List.mem_cons_of_mem _ mw_153) (k_callV (q := (RX2, TX2, 6)) dX4_code_33 cX2_looksLikeDefinition_ct rfl (kv_goodV mw_182 mw_183 mw_184 mw_2 mw_185) (by decide +kernel) rfl (by decide) (by decide) (k_ifeq dX4_code_36 rfl (sX4_code_46) (sX4_code_39))))
def fX4_code_23 : kv_D := o_iload 1 (o_const 59 (o_icne (fX4_code_60) (fX4_code_29)))
theorem sX4_code_23 : SX4_code 23 (fX4_code_23) := k_iload_n dX4_code_23 rfl (k_bipush dX4_code_24 (by decide +kernel) (k_icne dX4_code_26 rfl (sX4_code_60) (sX4_code_29)))
def fX4_code_21 : kv_D := o_const 0 (o_iret .int)
theorem sX4_code_21 : SX4_code 21 (fX4_code_21) := k_iconst dX4_code_21 (by decide +kernel) (k_iret dX4_code_22 rfl)
def fX4_code_15 : kv_D := o_iload 1 (o_const 32 (o_icne (fX4_code_23) (fX4_code_21)))
theorem sX4_code_15 : SX4_code 15 (fX4_code_15) := k_iload_n dX4_code_15 rfl (k_bipush dX4_code_16 (by decide +kernel) (k_icne dX4_code_18 rfl (sX4_code_23) (sX4_code_21)))
def fX4_code_12 : kv_D := o_const (-6) (o_iret .int)
theorem sX4_code_12 : SX4_code 12 (fX4_code_12) := k_bipush dX4_code_12 (by decide +kernel) (k_iret dX4_code_14 rfl)
def fX4_code_6 : kv_D := o_iload 1 (o_const 126 (o_icle (fX4_code_15) (fX4_code_12)))
theorem sX4_code_6 : SX4_code 6 (fX4_code_6) := k_iload_n dX4_code_6 rfl (k_bipush dX4_code_7 (by decide +kernel) (k_icle dX4_code_9 rfl (sX4_code_15) (sX4_code_12)))
def fX4_code_0 : kv_D := o_iload 1 (o_const 32 (o_iclt (fX4_code_12) (fX4_code_6)))
theorem sX4_code_0 : SX4_code 0 (fX4_code_0) := k_iload_n dX4_code_0 rfl (k_bipush dX4_code_1 (by decide +kernel) (k_iclt dX4_code_3 rfl (sX4_code_12) (sX4_code_6)))
def mX4_code : kv_M := kv_in 2 3 (fX4_code_0)
theorem cX4_code_ct : kv_CT yX4_code wX4_code 6 133 mX4_code := kv_met (by decide) rfl rfl (by decide) (fun h => by cases h) (sX4_code_0)
-- X4_rules
def wX4_rules : List Cond := Cond.code yX4_rules cX4_rules 1 (some .int) :: kv_tb
abbrev SX4_rules (pc : Nat) (F : kv_D) : Prop := kv_S cX4_rules 1 RX4 wX4_rules (some .int) false 0 0 none pc F
def fX4_rules_0 : kv_D := o_aload 0 (o_getf 4 2 (o_iret .int))
theorem sX4_rules_0 : SX4_rules 0 (fX4_rules_0) := k_aload_n dX4_rules_0 rfl (k_getf (C := RX4) (T := TX4) (N := 8) (ci := 4) (index := 23) (kf := 2) dX4_rules_1 rfl (fun w h => List.mem_cons_of_mem _ (inX4 w h)) (by decide) (List.mem_cons_of_mem _ mw_155) (k_iret dX4_rules_4 rfl))
def mX4_rules : kv_M := kv_in 1 1 (fX4_rules_0)
theorem cX4_rules_ct : kv_CT yX4_rules wX4_rules 0 0 mX4_rules := kv_met (by decide) rfl rfl (by decide) (fun h => by cases h) (sX4_rules_0)
-- X3_clear
def wX3_clear : List Cond := Cond.code yX3_clear cX3_clear 1 none :: kv_tb
abbrev SX3_clear (pc : Nat) (F : kv_D) : Prop := kv_S cX3_clear 1 RX3 wX3_clear none false 0 0 none pc F
def fX3_clear_0 : kv_D := o_aload 0 (o_const 0 (o_putf 3 2 .int (o_aload 0 (o_const 0 (o_putf 3 3 .int (o_ret))))))
theorem sX3_clear_0 : SX3_clear 0 (fX3_clear_0) := k_aload_n dX3_clear_0 rfl (k_iconst dX3_clear_1 (by decide +kernel) (k_putf (C := RX3) (T := TX3) (N := 4) (ci := 3) (index := 18) (kf := 2) (ty := .int) dX3_clear_2 rfl (fun w h => List.mem_cons_of_mem _ (inX3 w h)) tyX3 tyX3_ok nmX3 (by decide) (List.mem_cons_of_mem _ mw_127) rfl rfl (k_aload_n dX3_clear_5 rfl (k_iconst dX3_clear_6 (by decide +kernel) (k_putf (C := RX3) (T := TX3) (N := 4) (ci := 3) (index := 22) (kf := 3) (ty := .int) dX3_clear_7 rfl (fun w h => List.mem_cons_of_mem _ (inX3 w h)) tyX3 tyX3_ok nmX3 (by decide) (List.mem_cons_of_mem _ mw_130) rfl rfl (k_ret dX3_clear_10 rfl))))))
def mX3_clear : kv_M := kv_in 1 1 (fX3_clear_0)
theorem cX3_clear_ct : kv_CT yX3_clear wX3_clear 0 0 mX3_clear := kv_met (by decide) rfl rfl (by decide) (fun h => by cases h) (sX3_clear_0)
-- X4_restart
def wX4_restart : List Cond := Cond.code yX4_restart cX4_restart 1 none :: kv_tb
abbrev SX4_restart (pc : Nat) (F : kv_D) : Prop := kv_S cX4_restart 1 RX4 wX4_restart none false 1 20 none pc F
def fX4_restart_0 : kv_D := o_aload 0 (o_getf 4 3 (o_callV 3 0 mX3_clear (o_aload 0 (o_const 0 (o_putf 4 5 .int (o_aload 0 (o_const (-1) (o_putf 4 6 .int (o_aload 0 (o_const 0 (o_putf 4 7 .boolean (o_ret))))))))))))
theorem sX4_restart_0 : SX4_restart 0 (fX4_restart_0) := k_aload_n dX4_restart_0 rfl (k_getf (C := RX4) (T := TX4) (N := 8) (ci := 4) (index := 30) (kf := 3) dX4_restart_1 rfl (fun w h => List.mem_cons_of_mem _ (inX4 w h)) (by decide) (List.mem_cons_of_mem _ mw_156) (k_callV (q := (RX3, TX3, 4)) dX4_restart_4 cX3_clear_ct rfl (kv_goodV mw_308 mw_309 mw_310 mw_4 mw_311) (by decide +kernel) rfl (by decide) (by decide) (k_aload_n dX4_restart_7 rfl (k_iconst dX4_restart_8 (by decide +kernel) (k_putf (C := RX4) (T := TX4) (N := 8) (ci := 4) (index := 41) (kf := 5) (ty := .int) dX4_restart_9 rfl (fun w h => List.mem_cons_of_mem _ (inX4 w h)) tyX4 tyX4_ok nmX4 (by decide) (List.mem_cons_of_mem _ mw_158) rfl rfl (k_aload_n dX4_restart_12 rfl (k_iconst dX4_restart_13 (by decide +kernel) (k_putf (C := RX4) (T := TX4) (N := 8) (ci := 4) (index := 44) (kf := 6) (ty := .int) dX4_restart_14 rfl (fun w h => List.mem_cons_of_mem _ (inX4 w h)) tyX4 tyX4_ok nmX4 (by decide) (List.mem_cons_of_mem _ mw_159) rfl rfl (k_aload_n dX4_restart_17 rfl (k_iconst dX4_restart_18 (by decide +kernel) (k_putf (C := RX4) (T := TX4) (N := 8) (ci := 4) (index := 47) (kf := 7) (ty := .boolean) dX4_restart_19 rfl (fun w h => List.mem_cons_of_mem _ (inX4 w h)) tyX4 tyX4_ok nmX4 (by decide) (List.mem_cons_of_mem _ mw_160) rfl rfl (k_ret dX4_restart_22 rfl))))))))))))
def mX4_restart : kv_M := kv_in 1 1 (fX4_restart_0)
theorem cX4_restart_ct : kv_CT yX4_restart wX4_restart 1 20 mX4_restart := kv_met (by decide) rfl rfl (by decide) (fun h => by cases h) (sX4_restart_0)
-- X4_forget
def wX4_forget : List Cond := Cond.code yX4_forget cX4_forget 1 none :: kv_tb
abbrev SX4_forget (pc : Nat) (F : kv_D) : Prop := kv_S cX4_forget 1 RX4 wX4_forget none false 2 40 none pc F
def fX4_forget_0 : kv_D := o_aload 0 (o_const 0 (o_putf 4 2 .int (o_aload 0 (o_getf 4 0 (o_callV 2 0 mX2_clear (o_aload 0 (o_getf 4 0 (o_callV 2 0 mX2_clearMeanings (o_aload 0 (o_callV 4 0 mX4_restart (o_ret)))))))))))
theorem sX4_forget_0 : SX4_forget 0 (fX4_forget_0) := k_aload_n dX4_forget_0 rfl (k_iconst dX4_forget_1 (by decide +kernel) (k_putf (C := RX4) (T := TX4) (N := 8) (ci := 4) (index := 23) (kf := 2) (ty := .int) dX4_forget_2 rfl (fun w h => List.mem_cons_of_mem _ (inX4 w h)) tyX4 tyX4_ok nmX4 (by decide) (List.mem_cons_of_mem _ mw_155) rfl rfl (k_aload_n dX4_forget_5 rfl (k_getf (C := RX4) (T := TX4) (N := 8) (ci := 4) (index := 12) (kf := 0) dX4_forget_6 rfl (fun w h => List.mem_cons_of_mem _ (inX4 w h)) (by decide) (List.mem_cons_of_mem _ mw_153) (k_callV (q := (RX2, TX2, 6)) dX4_forget_9 cX2_clear_ct rfl (kv_goodV mw_287 mw_288 mw_289 mw_2 mw_290) (by decide +kernel) rfl (by decide) (by decide) (k_aload_n dX4_forget_12 rfl (k_getf (C := RX4) (T := TX4) (N := 8) (ci := 4) (index := 12) (kf := 0) dX4_forget_13 rfl (fun w h => List.mem_cons_of_mem _ (inX4 w h)) (by decide) (List.mem_cons_of_mem _ mw_153) (k_callV (q := (RX2, TX2, 6)) dX4_forget_16 cX2_clearMeanings_ct rfl (kv_goodV mw_303 mw_24 mw_25 mw_2 mw_26) (by decide +kernel) rfl (by decide) (by decide) (k_aload_n dX4_forget_19 rfl (k_callV (q := (RX4, TX4, 8)) dX4_forget_20 cX4_restart_ct rfl (kv_goodV mw_304 mw_305 mw_306 mw_1 mw_307) (by decide +kernel) rfl (by decide) (by decide) (k_ret dX4_forget_23 rfl)))))))))))
def mX4_forget : kv_M := kv_in 1 1 (fX4_forget_0)
theorem cX4_forget_ct : kv_CT yX4_forget wX4_forget 2 40 mX4_forget := kv_met (by decide) rfl rfl (by decide) (fun h => by cases h) (sX4_forget_0)
end
section
theorem dX3_append_11 : decode cX3_append 11 = .ok (.aload_n 0, 1) := by decide +kernel
theorem dX3_append_12 : decode cX3_append 12 = .ok (.getfield 9, 3) := by decide +kernel
theorem dX3_append_15 : decode cX3_append 15 = .ok (.aload_n 0, 1) := by decide +kernel
theorem dX3_append_16 : decode cX3_append 16 = .ok (.getfield 18, 3) := by decide +kernel
theorem dX3_append_19 : decode cX3_append 19 = .ok (.iload_n 1, 1) := by decide +kernel
theorem dX3_append_20 : decode cX3_append 20 = .ok (.castore, 1) := by decide +kernel
theorem dX3_append_21 : decode cX3_append 21 = .ok (.aload_n 0, 1) := by decide +kernel
theorem dX3_append_22 : decode cX3_append 22 = .ok (.dup, 1) := by decide +kernel
theorem dX3_append_23 : decode cX3_append 23 = .ok (.getfield 18, 3) := by decide +kernel
theorem dX3_append_26 : decode cX3_append 26 = .ok (.iconst 1, 1) := by decide +kernel
theorem dX3_append_27 : decode cX3_append 27 = .ok (.iadd, 1) := by decide +kernel
theorem dX3_append_28 : decode cX3_append 28 = .ok (.putfield 18, 3) := by decide +kernel
theorem dX3_append_31 : decode cX3_append 31 = .ok (.iconst 1, 1) := by decide +kernel
theorem dX3_append_32 : decode cX3_append 32 = .ok (.ireturn, 1) := by decide +kernel
theorem dX3_append_9 : decode cX3_append 9 = .ok (.iconst 0, 1) := by decide +kernel
theorem dX3_append_10 : decode cX3_append 10 = .ok (.ireturn, 1) := by decide +kernel
theorem dX3_append_0 : decode cX3_append 0 = .ok (.aload_n 0, 1) := by decide +kernel
theorem dX3_append_1 : decode cX3_append 1 = .ok (.getfield 18, 3) := by decide +kernel
theorem dX3_append_4 : decode cX3_append 4 = .ok (.bipush 60, 2) := by decide +kernel
theorem dX3_append_6 : decode cX3_append 6 = .ok (.if_icmp .lt 5, 3) := by decide +kernel
theorem dX4_write_16 : decode cX4_write 16 = .ok (.aload_n 0, 1) := by decide +kernel
theorem dX4_write_17 : decode cX4_write 17 = .ok (.getfield 30, 3) := by decide +kernel
theorem dX4_write_20 : decode cX4_write 20 = .ok (.iload_n 1, 1) := by decide +kernel
theorem dX4_write_21 : decode cX4_write 21 = .ok (.invokevirtual 79, 3) := by decide +kernel
theorem dX4_write_24 : decode cX4_write 24 = .ok (.ireturn, 1) := by decide +kernel
theorem dX4_write_14 : decode cX4_write 14 = .ok (.iconst 0, 1) := by decide +kernel
theorem dX4_write_15 : decode cX4_write 15 = .ok (.ireturn, 1) := by decide +kernel
theorem dX4_write_7 : decode cX4_write 7 = .ok (.iload_n 1, 1) := by decide +kernel
theorem dX4_write_8 : decode cX4_write 8 = .ok (.invokestatic 76, 3) := by decide +kernel
theorem dX4_write_11 : decode cX4_write 11 = .ok (.ifCond .ne 5, 3) := by decide +kernel
theorem dX4_write_0 : decode cX4_write 0 = .ok (.aload_n 0, 1) := by decide +kernel
theorem dX4_write_1 : decode cX4_write 1 = .ok (.getfield 47, 3) := by decide +kernel
theorem dX4_write_4 : decode cX4_write 4 = .ok (.ifCond .ne 10, 3) := by decide +kernel
theorem dX3_isIn_21 : decode cX3_isIn 21 = .ok (.ireturn, 1) := by decide +kernel
theorem dX3_isIn_20 : decode cX3_isIn 20 = .ok (.iconst 0, 1) := by decide +kernel
theorem dX3_isIn_16 : decode cX3_isIn 16 = .ok (.iconst 1, 1) := by decide +kernel
theorem dX3_isIn_17 : decode cX3_isIn 17 = .ok (.goto 4, 3) := by decide +kernel
theorem dX3_isIn_0 : decode cX3_isIn 0 = .ok (.iload_n 1, 1) := by decide +kernel
theorem dX3_isIn_1 : decode cX3_isIn 1 = .ok (.aload_n 0, 1) := by decide +kernel
theorem dX3_isIn_2 : decode cX3_isIn 2 = .ok (.getfield 9, 3) := by decide +kernel
theorem dX3_isIn_5 : decode cX3_isIn 5 = .ok (.iload_n 2, 1) := by decide +kernel
theorem dX3_isIn_6 : decode cX3_isIn 6 = .ok (.caload, 1) := by decide +kernel
theorem dX3_isIn_7 : decode cX3_isIn 7 = .ok (.bipush 97, 2) := by decide +kernel
theorem dX3_isIn_9 : decode cX3_isIn 9 = .ok (.isub, 1) := by decide +kernel
theorem dX3_isIn_10 : decode cX3_isIn 10 = .ok (.ishr, 1) := by decide +kernel
theorem dX3_isIn_11 : decode cX3_isIn 11 = .ok (.iconst 1, 1) := by decide +kernel
theorem dX3_isIn_12 : decode cX3_isIn 12 = .ok (.iand, 1) := by decide +kernel
theorem dX3_isIn_13 : decode cX3_isIn 13 = .ok (.ifCond .eq 7, 3) := by decide +kernel
theorem dX0_takeBefore_83 : decode cX0_takeBefore 83 = .ok (.iconst 1, 1) := by decide +kernel
theorem dX0_takeBefore_84 : decode cX0_takeBefore 84 = .ok (.ireturn, 1) := by decide +kernel
theorem dX0_takeBefore_77 : decode cX0_takeBefore 77 = .ok (.iinc 4 (-1), 3) := by decide +kernel
theorem dX0_takeBefore_80 : decode cX0_takeBefore 80 = .ok (.goto (-67), 3) := by decide +kernel
theorem dX0_takeBefore_75 : decode cX0_takeBefore 75 = .ok (.iconst 0, 1) := by decide +kernel
theorem dX0_takeBefore_76 : decode cX0_takeBefore 76 = .ok (.ireturn, 1) := by decide +kernel
theorem dX0_takeBefore_63 : decode cX0_takeBefore 63 = .ok (.iload 5, 2) := by decide +kernel
theorem dX0_takeBefore_65 : decode cX0_takeBefore 65 = .ok (.aload_n 1, 1) := by decide +kernel
theorem dX0_takeBefore_66 : decode cX0_takeBefore 66 = .ok (.getfield 50, 3) := by decide +kernel
theorem dX0_takeBefore_69 : decode cX0_takeBefore 69 = .ok (.iload 4, 2) := by decide +kernel
theorem dX0_takeBefore_71 : decode cX0_takeBefore 71 = .ok (.iaload, 1) := by decide +kernel
theorem dX0_takeBefore_72 : decode cX0_takeBefore 72 = .ok (.if_icmp .ge 5, 3) := by decide +kernel
theorem dX0_takeBefore_54 : decode cX0_takeBefore 54 = .ok (.iinc 5 1, 3) := by decide +kernel
theorem dX0_takeBefore_57 : decode cX0_takeBefore 57 = .ok (.iinc 3 (-1), 3) := by decide +kernel
theorem dX0_takeBefore_60 : decode cX0_takeBefore 60 = .ok (.goto (-39), 3) := by decide +kernel
theorem dX0_takeBefore_37 : decode cX0_takeBefore 37 = .ok (.aload_n 2, 1) := by decide +kernel
theorem dX0_takeBefore_38 : decode cX0_takeBefore 38 = .ok (.aload_n 1, 1) := by decide +kernel
theorem dX0_takeBefore_39 : decode cX0_takeBefore 39 = .ok (.getfield 43, 3) := by decide +kernel
theorem dX0_takeBefore_42 : decode cX0_takeBefore 42 = .ok (.iload 4, 2) := by decide +kernel
theorem dX0_takeBefore_44 : decode cX0_takeBefore 44 = .ok (.iaload, 1) := by decide +kernel
theorem dX0_takeBefore_45 : decode cX0_takeBefore 45 = .ok (.iload_n 3, 1) := by decide +kernel
theorem dX0_takeBefore_46 : decode cX0_takeBefore 46 = .ok (.iconst 1, 1) := by decide +kernel
theorem dX0_takeBefore_47 : decode cX0_takeBefore 47 = .ok (.isub, 1) := by decide +kernel
theorem dX0_takeBefore_48 : decode cX0_takeBefore 48 = .ok (.invokevirtual 46, 3) := by decide +kernel
theorem dX0_takeBefore_51 : decode cX0_takeBefore 51 = .ok (.ifCond .eq 12, 3) := by decide +kernel
theorem dX0_takeBefore_33 : decode cX0_takeBefore 33 = .ok (.iload_n 3, 1) := by decide +kernel
theorem dX0_takeBefore_34 : decode cX0_takeBefore 34 = .ok (.ifCond .le 29, 3) := by decide +kernel
theorem dX0_takeBefore_21 : decode cX0_takeBefore 21 = .ok (.iload 5, 2) := by decide +kernel
theorem dX0_takeBefore_23 : decode cX0_takeBefore 23 = .ok (.aload_n 1, 1) := by decide +kernel
theorem dX0_takeBefore_24 : decode cX0_takeBefore 24 = .ok (.getfield 40, 3) := by decide +kernel
theorem dX0_takeBefore_27 : decode cX0_takeBefore 27 = .ok (.iload 4, 2) := by decide +kernel
theorem dX0_takeBefore_29 : decode cX0_takeBefore 29 = .ok (.iaload, 1) := by decide +kernel
theorem dX0_takeBefore_30 : decode cX0_takeBefore 30 = .ok (.if_icmp .ge 33, 3) := by decide +kernel
theorem dX0_takeBefore_18 : decode cX0_takeBefore 18 = .ok (.iconst 0, 1) := by decide +kernel
theorem dX0_takeBefore_19 : decode cX0_takeBefore 19 = .ok (.istore 5, 2) := by decide +kernel
theorem dX0_takeBefore_13 : decode cX0_takeBefore 13 = .ok (.iload 4, 2) := by decide +kernel
theorem dX0_takeBefore_15 : decode cX0_takeBefore 15 = .ok (.ifCond .lt 68, 3) := by decide +kernel
theorem dX0_takeBefore_0 : decode cX0_takeBefore 0 = .ok (.aload_n 2, 1) := by decide +kernel
theorem dX0_takeBefore_1 : decode cX0_takeBefore 1 = .ok (.getfield 25, 3) := by decide +kernel
theorem dX0_takeBefore_4 : decode cX0_takeBefore 4 = .ok (.istore_n 3, 1) := by decide +kernel
theorem dX0_takeBefore_5 : decode cX0_takeBefore 5 = .ok (.aload_n 1, 1) := by decide +kernel
theorem dX0_takeBefore_6 : decode cX0_takeBefore 6 = .ok (.getfield 19, 3) := by decide +kernel
theorem dX0_takeBefore_9 : decode cX0_takeBefore 9 = .ok (.iconst 1, 1) := by decide +kernel
theorem dX0_takeBefore_10 : decode cX0_takeBefore 10 = .ok (.isub, 1) := by decide +kernel
theorem dX0_takeBefore_11 : decode cX0_takeBefore 11 = .ok (.istore 4, 2) := by decide +kernel
theorem dX0_takeOnward_126 : decode cX0_takeOnward 126 = .ok (.iconst 1, 1) := by decide +kernel
theorem dX0_takeOnward_127 : decode cX0_takeOnward 127 = .ok (.ireturn, 1) := by decide +kernel
theorem dX0_takeOnward_109 : decode cX0_takeOnward 109 = .ok (.aload_n 0, 1) := by decide +kernel
theorem dX0_takeOnward_110 : decode cX0_takeOnward 110 = .ok (.getfield 9, 3) := by decide +kernel
theorem dX0_takeOnward_113 : decode cX0_takeOnward 113 = .ok (.iload 7, 2) := by decide +kernel
theorem dX0_takeOnward_115 : decode cX0_takeOnward 115 = .ok (.iconst 1, 1) := by decide +kernel
theorem dX0_takeOnward_116 : decode cX0_takeOnward 116 = .ok (.iadd, 1) := by decide +kernel
theorem dX0_takeOnward_117 : decode cX0_takeOnward 117 = .ok (.iload 6, 2) := by decide +kernel
theorem dX0_takeOnward_119 : decode cX0_takeOnward 119 = .ok (.iastore, 1) := by decide +kernel
theorem dX0_takeOnward_120 : decode cX0_takeOnward 120 = .ok (.iinc 7 1, 3) := by decide +kernel
theorem dX0_takeOnward_123 : decode cX0_takeOnward 123 = .ok (.goto (-112), 3) := by decide +kernel
theorem dX0_takeOnward_107 : decode cX0_takeOnward 107 = .ok (.iconst 0, 1) := by decide +kernel
theorem dX0_takeOnward_108 : decode cX0_takeOnward 108 = .ok (.ireturn, 1) := by decide +kernel
theorem dX0_takeOnward_95 : decode cX0_takeOnward 95 = .ok (.iload 8, 2) := by decide +kernel
theorem dX0_takeOnward_97 : decode cX0_takeOnward 97 = .ok (.aload_n 1, 1) := by decide +kernel
theorem dX0_takeOnward_98 : decode cX0_takeOnward 98 = .ok (.getfield 50, 3) := by decide +kernel
theorem dX0_takeOnward_101 : decode cX0_takeOnward 101 = .ok (.iload 7, 2) := by decide +kernel
theorem dX0_takeOnward_103 : decode cX0_takeOnward 103 = .ok (.iaload, 1) := by decide +kernel
theorem dX0_takeOnward_104 : decode cX0_takeOnward 104 = .ok (.if_icmp .ge 5, 3) := by decide +kernel
theorem dX0_takeOnward_93 : decode cX0_takeOnward 93 = .ok (.iconst 2, 1) := by decide +kernel
theorem dX0_takeOnward_94 : decode cX0_takeOnward 94 = .ok (.ireturn, 1) := by decide +kernel
theorem dX0_takeOnward_81 : decode cX0_takeOnward 81 = .ok (.iload 8, 2) := by decide +kernel
theorem dX0_takeOnward_83 : decode cX0_takeOnward 83 = .ok (.aload_n 1, 1) := by decide +kernel
theorem dX0_takeOnward_84 : decode cX0_takeOnward 84 = .ok (.getfield 40, 3) := by decide +kernel
theorem dX0_takeOnward_87 : decode cX0_takeOnward 87 = .ok (.iload 7, 2) := by decide +kernel
theorem dX0_takeOnward_89 : decode cX0_takeOnward 89 = .ok (.iaload, 1) := by decide +kernel
theorem dX0_takeOnward_90 : decode cX0_takeOnward 90 = .ok (.if_icmp .ge 5, 3) := by decide +kernel
theorem dX0_takeOnward_72 : decode cX0_takeOnward 72 = .ok (.iload 6, 2) := by decide +kernel
theorem dX0_takeOnward_74 : decode cX0_takeOnward 74 = .ok (.aload_n 2, 1) := by decide +kernel
theorem dX0_takeOnward_75 : decode cX0_takeOnward 75 = .ok (.getfield 53, 3) := by decide +kernel
theorem dX0_takeOnward_78 : decode cX0_takeOnward 78 = .ok (.if_icmp .ne 17, 3) := by decide +kernel
theorem dX0_takeOnward_67 : decode cX0_takeOnward 67 = .ok (.iload 5, 2) := by decide +kernel
theorem dX0_takeOnward_69 : decode cX0_takeOnward 69 = .ok (.ifCond .ne 26, 3) := by decide +kernel
theorem dX0_takeOnward_58 : decode cX0_takeOnward 58 = .ok (.iinc 8 1, 3) := by decide +kernel
theorem dX0_takeOnward_61 : decode cX0_takeOnward 61 = .ok (.iinc 6 1, 3) := by decide +kernel
theorem dX0_takeOnward_64 : decode cX0_takeOnward 64 = .ok (.goto (-43), 3) := by decide +kernel
theorem dX0_takeOnward_42 : decode cX0_takeOnward 42 = .ok (.aload_n 2, 1) := by decide +kernel
theorem dX0_takeOnward_43 : decode cX0_takeOnward 43 = .ok (.aload_n 1, 1) := by decide +kernel
theorem dX0_takeOnward_44 : decode cX0_takeOnward 44 = .ok (.getfield 43, 3) := by decide +kernel
theorem dX0_takeOnward_47 : decode cX0_takeOnward 47 = .ok (.iload 7, 2) := by decide +kernel
theorem dX0_takeOnward_49 : decode cX0_takeOnward 49 = .ok (.iaload, 1) := by decide +kernel
theorem dX0_takeOnward_50 : decode cX0_takeOnward 50 = .ok (.iload 6, 2) := by decide +kernel
theorem dX0_takeOnward_52 : decode cX0_takeOnward 52 = .ok (.invokevirtual 46, 3) := by decide +kernel
theorem dX0_takeOnward_55 : decode cX0_takeOnward 55 = .ok (.ifCond .eq 12, 3) := by decide +kernel
theorem dX0_takeOnward_33 : decode cX0_takeOnward 33 = .ok (.iload 6, 2) := by decide +kernel
theorem dX0_takeOnward_35 : decode cX0_takeOnward 35 = .ok (.aload_n 2, 1) := by decide +kernel
theorem dX0_takeOnward_36 : decode cX0_takeOnward 36 = .ok (.getfield 53, 3) := by decide +kernel
theorem dX0_takeOnward_39 : decode cX0_takeOnward 39 = .ok (.if_icmp .ge 28, 3) := by decide +kernel
theorem dX0_takeOnward_21 : decode cX0_takeOnward 21 = .ok (.iload 8, 2) := by decide +kernel
theorem dX0_takeOnward_23 : decode cX0_takeOnward 23 = .ok (.aload_n 1, 1) := by decide +kernel
theorem dX0_takeOnward_24 : decode cX0_takeOnward 24 = .ok (.getfield 40, 3) := by decide +kernel
theorem dX0_takeOnward_27 : decode cX0_takeOnward 27 = .ok (.iload 7, 2) := by decide +kernel
theorem dX0_takeOnward_29 : decode cX0_takeOnward 29 = .ok (.iaload, 1) := by decide +kernel
theorem dX0_takeOnward_30 : decode cX0_takeOnward 30 = .ok (.if_icmp .ge 37, 3) := by decide +kernel
theorem dX0_takeOnward_18 : decode cX0_takeOnward 18 = .ok (.iconst 0, 1) := by decide +kernel
theorem dX0_takeOnward_19 : decode cX0_takeOnward 19 = .ok (.istore 8, 2) := by decide +kernel
theorem dX0_takeOnward_11 : decode cX0_takeOnward 11 = .ok (.iload 7, 2) := by decide +kernel
theorem dX0_takeOnward_13 : decode cX0_takeOnward 13 = .ok (.iload 4, 2) := by decide +kernel
theorem dX0_takeOnward_15 : decode cX0_takeOnward 15 = .ok (.if_icmp .ge 111, 3) := by decide +kernel
theorem dX0_takeOnward_0 : decode cX0_takeOnward 0 = .ok (.aload_n 0, 1) := by decide +kernel
theorem dX0_takeOnward_1 : decode cX0_takeOnward 1 = .ok (.getfield 9, 3) := by decide +kernel
theorem dX0_takeOnward_4 : decode cX0_takeOnward 4 = .ok (.iload_n 3, 1) := by decide +kernel
theorem dX0_takeOnward_5 : decode cX0_takeOnward 5 = .ok (.iaload, 1) := by decide +kernel
theorem dX0_takeOnward_6 : decode cX0_takeOnward 6 = .ok (.istore 6, 2) := by decide +kernel
theorem dX0_takeOnward_8 : decode cX0_takeOnward 8 = .ok (.iload_n 3, 1) := by decide +kernel
theorem dX0_takeOnward_9 : decode cX0_takeOnward 9 = .ok (.istore 7, 2) := by decide +kernel
theorem dX0_run_68 : decode cX0_run 68 = .ok (.aload_n 0, 1) := by decide +kernel
theorem dX0_run_69 : decode cX0_run 69 = .ok (.aload_n 1, 1) := by decide +kernel
theorem dX0_run_70 : decode cX0_run 70 = .ok (.aload_n 2, 1) := by decide +kernel
theorem dX0_run_71 : decode cX0_run 71 = .ok (.aload_n 1, 1) := by decide +kernel
theorem dX0_run_72 : decode cX0_run 72 = .ok (.getfield 30, 3) := by decide +kernel
theorem dX0_run_75 : decode cX0_run 75 = .ok (.aload_n 1, 1) := by decide +kernel
theorem dX0_run_76 : decode cX0_run 76 = .ok (.getfield 37, 3) := by decide +kernel
theorem dX0_run_79 : decode cX0_run 79 = .ok (.iload_n 3, 1) := by decide +kernel
theorem dX0_run_80 : decode cX0_run 80 = .ok (.invokevirtual 33, 3) := by decide +kernel
theorem dX0_run_83 : decode cX0_run 83 = .ok (.ireturn, 1) := by decide +kernel
theorem dX0_run_66 : decode cX0_run 66 = .ok (.iconst 0, 1) := by decide +kernel
theorem dX0_run_67 : decode cX0_run 67 = .ok (.ireturn, 1) := by decide +kernel
theorem dX0_run_50 : decode cX0_run 50 = .ok (.aload_n 0, 1) := by decide +kernel
theorem dX0_run_51 : decode cX0_run 51 = .ok (.getfield 9, 3) := by decide +kernel
theorem dX0_run_54 : decode cX0_run 54 = .ok (.aload_n 1, 1) := by decide +kernel
theorem dX0_run_55 : decode cX0_run 55 = .ok (.getfield 30, 3) := by decide +kernel
theorem dX0_run_58 : decode cX0_run 58 = .ok (.iaload, 1) := by decide +kernel
theorem dX0_run_59 : decode cX0_run 59 = .ok (.aload_n 2, 1) := by decide +kernel
theorem dX0_run_60 : decode cX0_run 60 = .ok (.getfield 25, 3) := by decide +kernel
theorem dX0_run_63 : decode cX0_run 63 = .ok (.if_icmp .ne 5, 3) := by decide +kernel
theorem dX0_run_47 : decode cX0_run 47 = .ok (.iload 4, 2) := by decide +kernel
theorem dX0_run_49 : decode cX0_run 49 = .ok (.ireturn, 1) := by decide +kernel
theorem dX0_run_11 : decode cX0_run 11 = .ok (.aload_n 0, 1) := by decide +kernel
theorem dX0_run_12 : decode cX0_run 12 = .ok (.getfield 9, 3) := by decide +kernel
theorem dX0_run_15 : decode cX0_run 15 = .ok (.aload_n 1, 1) := by decide +kernel
theorem dX0_run_16 : decode cX0_run 16 = .ok (.getfield 19, 3) := by decide +kernel
theorem dX0_run_19 : decode cX0_run 19 = .ok (.aload_n 2, 1) := by decide +kernel
theorem dX0_run_20 : decode cX0_run 20 = .ok (.getfield 25, 3) := by decide +kernel
theorem dX0_run_23 : decode cX0_run 23 = .ok (.iastore, 1) := by decide +kernel
theorem dX0_run_24 : decode cX0_run 24 = .ok (.aload_n 0, 1) := by decide +kernel
theorem dX0_run_25 : decode cX0_run 25 = .ok (.aload_n 1, 1) := by decide +kernel
theorem dX0_run_26 : decode cX0_run 26 = .ok (.aload_n 2, 1) := by decide +kernel
theorem dX0_run_27 : decode cX0_run 27 = .ok (.aload_n 1, 1) := by decide +kernel
theorem dX0_run_28 : decode cX0_run 28 = .ok (.getfield 19, 3) := by decide +kernel
theorem dX0_run_31 : decode cX0_run 31 = .ok (.aload_n 1, 1) := by decide +kernel
theorem dX0_run_32 : decode cX0_run 32 = .ok (.getfield 30, 3) := by decide +kernel
theorem dX0_run_35 : decode cX0_run 35 = .ok (.iload_n 3, 1) := by decide +kernel
theorem dX0_run_36 : decode cX0_run 36 = .ok (.invokevirtual 33, 3) := by decide +kernel
theorem dX0_run_39 : decode cX0_run 39 = .ok (.istore 4, 2) := by decide +kernel
theorem dX0_run_41 : decode cX0_run 41 = .ok (.iload 4, 2) := by decide +kernel
theorem dX0_run_43 : decode cX0_run 43 = .ok (.iconst 1, 1) := by decide +kernel
theorem dX0_run_44 : decode cX0_run 44 = .ok (.if_icmp .eq 6, 3) := by decide +kernel
theorem dX0_run_9 : decode cX0_run 9 = .ok (.iconst 0, 1) := by decide +kernel
theorem dX0_run_10 : decode cX0_run 10 = .ok (.ireturn, 1) := by decide +kernel
theorem dX0_run_0 : decode cX0_run 0 = .ok (.aload_n 0, 1) := by decide +kernel
theorem dX0_run_1 : decode cX0_run 1 = .ok (.aload_n 1, 1) := by decide +kernel
theorem dX0_run_2 : decode cX0_run 2 = .ok (.aload_n 2, 1) := by decide +kernel
theorem dX0_run_3 : decode cX0_run 3 = .ok (.invokevirtual 15, 3) := by decide +kernel
theorem dX0_run_6 : decode cX0_run 6 = .ok (.ifCond .ne 5, 3) := by decide +kernel
theorem dX0_segmentWidth_0 : decode cX0_segmentWidth 0 = .ok (.iload_n 2, 1) := by decide +kernel
theorem dX0_segmentWidth_1 : decode cX0_segmentWidth 1 = .ok (.bipush 49, 2) := by decide +kernel
theorem dX0_segmentWidth_3 : decode cX0_segmentWidth 3 = .ok (.isub, 1) := by decide +kernel
theorem dX0_segmentWidth_4 : decode cX0_segmentWidth 4 = .ok (.istore_n 3, 1) := by decide +kernel
theorem dX0_segmentWidth_5 : decode cX0_segmentWidth 5 = .ok (.aload_n 0, 1) := by decide +kernel
theorem dX0_segmentWidth_6 : decode cX0_segmentWidth 6 = .ok (.getfield 9, 3) := by decide +kernel
theorem dX0_segmentWidth_9 : decode cX0_segmentWidth 9 = .ok (.aload_n 1, 1) := by decide +kernel
theorem dX0_segmentWidth_10 : decode cX0_segmentWidth 10 = .ok (.getfield 59, 3) := by decide +kernel
theorem dX0_segmentWidth_13 : decode cX0_segmentWidth 13 = .ok (.iload_n 3, 1) := by decide +kernel
theorem dX0_segmentWidth_14 : decode cX0_segmentWidth 14 = .ok (.iaload, 1) := by decide +kernel
theorem dX0_segmentWidth_15 : decode cX0_segmentWidth 15 = .ok (.iaload, 1) := by decide +kernel
theorem dX0_segmentWidth_16 : decode cX0_segmentWidth 16 = .ok (.aload_n 0, 1) := by decide +kernel
theorem dX0_segmentWidth_17 : decode cX0_segmentWidth 17 = .ok (.getfield 9, 3) := by decide +kernel
theorem dX0_segmentWidth_20 : decode cX0_segmentWidth 20 = .ok (.aload_n 1, 1) := by decide +kernel
theorem dX0_segmentWidth_21 : decode cX0_segmentWidth 21 = .ok (.getfield 56, 3) := by decide +kernel
theorem dX0_segmentWidth_24 : decode cX0_segmentWidth 24 = .ok (.iload_n 3, 1) := by decide +kernel
theorem dX0_segmentWidth_25 : decode cX0_segmentWidth 25 = .ok (.iaload, 1) := by decide +kernel
theorem dX0_segmentWidth_26 : decode cX0_segmentWidth 26 = .ok (.iaload, 1) := by decide +kernel
theorem dX0_segmentWidth_27 : decode cX0_segmentWidth 27 = .ok (.isub, 1) := by decide +kernel
theorem dX0_segmentWidth_28 : decode cX0_segmentWidth 28 = .ok (.ireturn, 1) := by decide +kernel
theorem dX3_widthOf_48 : decode cX3_widthOf 48 = .ok (.iload_n 3, 1) := by decide +kernel
theorem dX3_widthOf_49 : decode cX3_widthOf 49 = .ok (.ireturn, 1) := by decide +kernel
theorem dX3_widthOf_40 : decode cX3_widthOf 40 = .ok (.iadd, 1) := by decide +kernel
theorem dX3_widthOf_41 : decode cX3_widthOf 41 = .ok (.istore_n 3, 1) := by decide +kernel
theorem dX3_widthOf_42 : decode cX3_widthOf 42 = .ok (.iinc 4 1, 3) := by decide +kernel
theorem dX3_widthOf_45 : decode cX3_widthOf 45 = .ok (.goto (-40), 3) := by decide +kernel
theorem dX3_widthOf_33 : decode cX3_widthOf 33 = .ok (.aload_n 1, 1) := by decide +kernel
theorem dX3_widthOf_34 : decode cX3_widthOf 34 = .ok (.aload_n 0, 1) := by decide +kernel
theorem dX3_widthOf_35 : decode cX3_widthOf 35 = .ok (.iload 5, 2) := by decide +kernel
theorem dX3_widthOf_37 : decode cX3_widthOf 37 = .ok (.invokevirtual 63, 3) := by decide +kernel
theorem dX3_widthOf_29 : decode cX3_widthOf 29 = .ok (.iconst 1, 1) := by decide +kernel
theorem dX3_widthOf_30 : decode cX3_widthOf 30 = .ok (.goto 10, 3) := by decide +kernel
theorem dX3_widthOf_11 : decode cX3_widthOf 11 = .ok (.aload_n 0, 1) := by decide +kernel
theorem dX3_widthOf_12 : decode cX3_widthOf 12 = .ok (.getfield 56, 3) := by decide +kernel
theorem dX3_widthOf_15 : decode cX3_widthOf 15 = .ok (.iload 4, 2) := by decide +kernel
theorem dX3_widthOf_17 : decode cX3_widthOf 17 = .ok (.caload, 1) := by decide +kernel
theorem dX3_widthOf_18 : decode cX3_widthOf 18 = .ok (.istore 5, 2) := by decide +kernel
theorem dX3_widthOf_20 : decode cX3_widthOf 20 = .ok (.iload_n 3, 1) := by decide +kernel
theorem dX3_widthOf_21 : decode cX3_widthOf 21 = .ok (.iload 5, 2) := by decide +kernel
theorem dX3_widthOf_23 : decode cX3_widthOf 23 = .ok (.invokestatic 59, 3) := by decide +kernel
theorem dX3_widthOf_26 : decode cX3_widthOf 26 = .ok (.ifCond .eq 7, 3) := by decide +kernel
theorem dX3_widthOf_5 : decode cX3_widthOf 5 = .ok (.iload 4, 2) := by decide +kernel
theorem dX3_widthOf_7 : decode cX3_widthOf 7 = .ok (.iload_n 2, 1) := by decide +kernel
theorem dX3_widthOf_8 : decode cX3_widthOf 8 = .ok (.if_icmp .ge 40, 3) := by decide +kernel
theorem dX3_widthOf_0 : decode cX3_widthOf 0 = .ok (.iconst 0, 1) := by decide +kernel
theorem dX3_widthOf_1 : decode cX3_widthOf 1 = .ok (.istore_n 3, 1) := by decide +kernel
theorem dX3_widthOf_2 : decode cX3_widthOf 2 = .ok (.iconst 0, 1) := by decide +kernel
theorem dX3_widthOf_3 : decode cX3_widthOf 3 = .ok (.istore 4, 2) := by decide +kernel
theorem dX3_sizeAfter_0 : decode cX3_sizeAfter 0 = .ok (.aload_n 2, 1) := by decide +kernel
theorem dX3_sizeAfter_1 : decode cX3_sizeAfter 1 = .ok (.getfield 25, 3) := by decide +kernel
theorem dX3_sizeAfter_4 : decode cX3_sizeAfter 4 = .ok (.aload_n 1, 1) := by decide +kernel
theorem dX3_sizeAfter_5 : decode cX3_sizeAfter 5 = .ok (.getfield 31, 3) := by decide +kernel
theorem dX3_sizeAfter_8 : decode cX3_sizeAfter 8 = .ok (.iaload, 1) := by decide +kernel
theorem dX3_sizeAfter_9 : decode cX3_sizeAfter 9 = .ok (.aload_n 0, 1) := by decide +kernel
theorem dX3_sizeAfter_10 : decode cX3_sizeAfter 10 = .ok (.getfield 22, 3) := by decide +kernel
theorem dX3_sizeAfter_13 : decode cX3_sizeAfter 13 = .ok (.isub, 1) := by decide +kernel
theorem dX3_sizeAfter_14 : decode cX3_sizeAfter 14 = .ok (.istore_n 3, 1) := by decide +kernel
theorem dX3_sizeAfter_15 : decode cX3_sizeAfter 15 = .ok (.aload_n 0, 1) := by decide +kernel
theorem dX3_sizeAfter_16 : decode cX3_sizeAfter 16 = .ok (.getfield 18, 3) := by decide +kernel
theorem dX3_sizeAfter_19 : decode cX3_sizeAfter 19 = .ok (.iload_n 3, 1) := by decide +kernel
theorem dX3_sizeAfter_20 : decode cX3_sizeAfter 20 = .ok (.isub, 1) := by decide +kernel
theorem dX3_sizeAfter_21 : decode cX3_sizeAfter 21 = .ok (.aload_n 1, 1) := by decide +kernel
theorem dX3_sizeAfter_22 : decode cX3_sizeAfter 22 = .ok (.aload_n 2, 1) := by decide +kernel
theorem dX3_sizeAfter_23 : decode cX3_sizeAfter 23 = .ok (.aload_n 1, 1) := by decide +kernel
theorem dX3_sizeAfter_24 : decode cX3_sizeAfter 24 = .ok (.getfield 36, 3) := by decide +kernel
theorem dX3_sizeAfter_27 : decode cX3_sizeAfter 27 = .ok (.invokestatic 39, 3) := by decide +kernel
theorem dX3_sizeAfter_30 : decode cX3_sizeAfter 30 = .ok (.iadd, 1) := by decide +kernel
theorem dX3_sizeAfter_31 : decode cX3_sizeAfter 31 = .ok (.ireturn, 1) := by decide +kernel
theorem dX0_segmentBegin_0 : decode cX0_segmentBegin 0 = .ok (.aload_n 0, 1) := by decide +kernel
theorem dX0_segmentBegin_1 : decode cX0_segmentBegin 1 = .ok (.getfield 9, 3) := by decide +kernel
theorem dX0_segmentBegin_4 : decode cX0_segmentBegin 4 = .ok (.aload_n 1, 1) := by decide +kernel
theorem dX0_segmentBegin_5 : decode cX0_segmentBegin 5 = .ok (.getfield 56, 3) := by decide +kernel
theorem dX0_segmentBegin_8 : decode cX0_segmentBegin 8 = .ok (.iload_n 2, 1) := by decide +kernel
theorem dX0_segmentBegin_9 : decode cX0_segmentBegin 9 = .ok (.bipush 49, 2) := by decide +kernel
theorem dX0_segmentBegin_11 : decode cX0_segmentBegin 11 = .ok (.isub, 1) := by decide +kernel
theorem dX0_segmentBegin_12 : decode cX0_segmentBegin 12 = .ok (.iaload, 1) := by decide +kernel
theorem dX0_segmentBegin_13 : decode cX0_segmentBegin 13 = .ok (.iaload, 1) := by decide +kernel
theorem dX0_segmentBegin_14 : decode cX0_segmentBegin 14 = .ok (.ireturn, 1) := by decide +kernel
-- X3_append
def wX3_append : List Cond := Cond.code yX3_append cX3_append 2 (some .boolean) :: kv_tb
abbrev SX3_append (pc : Nat) (F : kv_D) : Prop := kv_S cX3_append 2 RX3 wX3_append (some .boolean) false 0 0 none pc F
def fX3_append_11 : kv_D := o_aload 0 (o_getf 3 0 (o_aload 0 (o_getf 3 2 (o_iload 1 (o_iast 1 (vp_nar .char) (o_aload 0 (o_dup (o_getf 3 2 (o_const 1 (o_iadd (o_putf 3 2 .int (o_const 1 (o_iret .boolean)))))))))))))
theorem sX3_append_11 : SX3_append 11 (fX3_append_11) := k_aload_n dX3_append_11 rfl (k_getf (C := RX3) (T := TX3) (N := 4) (ci := 3) (index := 9) (kf := 0) dX3_append_12 rfl (fun w h => List.mem_cons_of_mem _ (inX3 w h)) (by decide) (List.mem_cons_of_mem _ mw_124) (k_aload_n dX3_append_15 rfl (k_getf (C := RX3) (T := TX3) (N := 4) (ci := 3) (index := 18) (kf := 2) dX3_append_16 rfl (fun w h => List.mem_cons_of_mem _ (inX3 w h)) (by decide) (List.mem_cons_of_mem _ mw_127) (k_iload_n dX3_append_19 rfl (k_cast dX3_append_20 rfl (k_aload_n dX3_append_21 rfl (k_dup dX3_append_22 (k_getf (C := RX3) (T := TX3) (N := 4) (ci := 3) (index := 18) (kf := 2) dX3_append_23 rfl (fun w h => List.mem_cons_of_mem _ (inX3 w h)) (by decide) (List.mem_cons_of_mem _ mw_127) (k_iconst dX3_append_26 (by decide +kernel) (k_iadd dX3_append_27 (k_putf (C := RX3) (T := TX3) (N := 4) (ci := 3) (index := 18) (kf := 2) (ty := .int) dX3_append_28 rfl (fun w h => List.mem_cons_of_mem _ (inX3 w h)) tyX3 tyX3_ok nmX3 (by decide) (List.mem_cons_of_mem _ mw_127) rfl rfl (k_iconst dX3_append_31 (by decide +kernel) (k_iret dX3_append_32 rfl)))))))))))))
def fX3_append_9 : kv_D := o_const 0 (o_iret .boolean)
theorem sX3_append_9 : SX3_append 9 (fX3_append_9) := k_iconst dX3_append_9 (by decide +kernel) (k_iret dX3_append_10 rfl)
def fX3_append_0 : kv_D := o_aload 0 (o_getf 3 2 (o_const 60 (o_iclt (fX3_append_11) (fX3_append_9))))
theorem sX3_append_0 : SX3_append 0 (fX3_append_0) := k_aload_n dX3_append_0 rfl (k_getf (C := RX3) (T := TX3) (N := 4) (ci := 3) (index := 18) (kf := 2) dX3_append_1 rfl (fun w h => List.mem_cons_of_mem _ (inX3 w h)) (by decide) (List.mem_cons_of_mem _ mw_127) (k_bipush dX3_append_4 (by decide +kernel) (k_iclt dX3_append_6 rfl (sX3_append_11) (sX3_append_9))))
def mX3_append : kv_M := kv_in 2 2 (fX3_append_0)
theorem cX3_append_ct : kv_CT yX3_append wX3_append 0 0 mX3_append := kv_met (by decide) rfl rfl (by decide) (fun h => by cases h) (sX3_append_0)
-- X4_write
def wX4_write : List Cond := Cond.code yX4_write cX4_write 2 (some .boolean) :: kv_tb
abbrev SX4_write (pc : Nat) (F : kv_D) : Prop := kv_S cX4_write 2 RX4 wX4_write (some .boolean) false 1 21 none pc F
def fX4_write_16 : kv_D := o_aload 0 (o_getf 4 3 (o_iload 1 (o_callV 3 1 mX3_append (o_iret .boolean))))
theorem sX4_write_16 : SX4_write 16 (fX4_write_16) := k_aload_n dX4_write_16 rfl (k_getf (C := RX4) (T := TX4) (N := 8) (ci := 4) (index := 30) (kf := 3) dX4_write_17 rfl (fun w h => List.mem_cons_of_mem _ (inX4 w h)) (by decide) (List.mem_cons_of_mem _ mw_156) (k_iload_n dX4_write_20 rfl (k_callV (q := (RX3, TX3, 4)) dX4_write_21 cX3_append_ct rfl (kv_goodV mw_318 mw_319 mw_320 mw_4 mw_321) (by decide +kernel) rfl (by decide) (by decide) (k_iret dX4_write_24 rfl))))
def fX4_write_14 : kv_D := o_const 0 (o_iret .boolean)
theorem sX4_write_14 : SX4_write 14 (fX4_write_14) := k_iconst dX4_write_14 (by decide +kernel) (k_iret dX4_write_15 rfl)
def fX4_write_7 : kv_D := o_iload 1 (o_callS 1 mX4_isSmall (o_ifne (fX4_write_16) (fX4_write_14)))
theorem sX4_write_7 : SX4_write 7 (fX4_write_7) := k_iload_n dX4_write_7 rfl (k_callS dX4_write_8 cX4_isSmall_ct rfl (kv_goodS mw_317 mw_206 mw_1 mw_207) (by decide +kernel) (by decide) (by decide) (k_ifne dX4_write_11 rfl (sX4_write_16) (sX4_write_14)))
def fX4_write_0 : kv_D := o_aload 0 (o_getf 4 7 (o_ifne (fX4_write_14) (fX4_write_7)))
theorem sX4_write_0 : SX4_write 0 (fX4_write_0) := k_aload_n dX4_write_0 rfl (k_getf (C := RX4) (T := TX4) (N := 8) (ci := 4) (index := 47) (kf := 7) dX4_write_1 rfl (fun w h => List.mem_cons_of_mem _ (inX4 w h)) (by decide) (List.mem_cons_of_mem _ mw_160) (k_ifne dX4_write_4 rfl (sX4_write_14) (sX4_write_7)))
def mX4_write : kv_M := kv_in 2 2 (fX4_write_0)
theorem cX4_write_ct : kv_CT yX4_write wX4_write 1 21 mX4_write := kv_met (by decide) rfl rfl (by decide) (fun h => by cases h) (sX4_write_0)
-- X3_isIn
def wX3_isIn : List Cond := Cond.code yX3_isIn cX3_isIn 3 (some .boolean) :: kv_tb
abbrev SX3_isIn (pc : Nat) (F : kv_D) : Prop := kv_S cX3_isIn 3 RX3 wX3_isIn (some .boolean) false 0 0 none pc F
def fX3_isIn_21 : kv_D := o_iret .boolean
theorem sX3_isIn_21 : SX3_isIn 21 (fX3_isIn_21) := k_iret dX3_isIn_21 rfl
def fX3_isIn_20 : kv_D := o_const 0 ((fX3_isIn_21))
theorem sX3_isIn_20 : SX3_isIn 20 (fX3_isIn_20) := k_iconst dX3_isIn_20 (by decide +kernel) ((sX3_isIn_21))
def fX3_isIn_16 : kv_D := o_const 1 ((fX3_isIn_21))
theorem sX3_isIn_16 : SX3_isIn 16 (fX3_isIn_16) := k_iconst dX3_isIn_16 (by decide +kernel) (k_goto dX3_isIn_17 rfl (sX3_isIn_21))
def fX3_isIn_0 : kv_D := o_iload 1 (o_aload 0 (o_getf 3 0 (o_iload 2 (o_iald 1 (o_const 97 (o_isub (o_ishr (o_const 1 (o_iand (o_ifeq (fX3_isIn_20) (fX3_isIn_16)))))))))))
theorem sX3_isIn_0 : SX3_isIn 0 (fX3_isIn_0) := k_iload_n dX3_isIn_0 rfl (k_aload_n dX3_isIn_1 rfl (k_getf (C := RX3) (T := TX3) (N := 4) (ci := 3) (index := 9) (kf := 0) dX3_isIn_2 rfl (fun w h => List.mem_cons_of_mem _ (inX3 w h)) (by decide) (List.mem_cons_of_mem _ mw_124) (k_iload_n dX3_isIn_5 rfl (k_cald dX3_isIn_6 rfl (k_bipush dX3_isIn_7 (by decide +kernel) (k_isub dX3_isIn_9 (k_ishr dX3_isIn_10 (k_iconst dX3_isIn_11 (by decide +kernel) (k_iand dX3_isIn_12 (k_ifeq dX3_isIn_13 rfl (sX3_isIn_20) (sX3_isIn_16)))))))))))
def mX3_isIn : kv_M := kv_in 3 3 (fX3_isIn_0)
theorem cX3_isIn_ct : kv_CT yX3_isIn wX3_isIn 0 0 mX3_isIn := kv_met (by decide) rfl rfl (by decide) (fun h => by cases h) (sX3_isIn_0)
-- X0_takeBefore
def wX0_takeBefore : List Cond := Cond.code yX0_takeBefore cX0_takeBefore 6 (some .boolean) :: kv_tb
abbrev SX0_takeBefore (pc : Nat) (F : kv_D) : Prop := kv_S cX0_takeBefore 6 RX0 wX0_takeBefore (some .boolean) false 1 22 none pc F
def fX0_takeBefore_83 (K : Nat → kv_D) : kv_D := o_const 1 (o_iret .boolean)
theorem sX0_takeBefore_83 {K : Nat → kv_D} (hK : ∀ pc, SX0_takeBefore pc (K pc)) : SX0_takeBefore 83 (fX0_takeBefore_83 K) := k_iconst dX0_takeBefore_83 (by decide +kernel) (k_iret dX0_takeBefore_84 rfl)
theorem nX0_takeBefore_83 : kv_cn (fun K => fX0_takeBefore_83 K) := cn_const 1 (cn_c _)
def fX0_takeBefore_77 (K : Nat → kv_D) : kv_D := o_iinc 4 (-1) ((K 13))
theorem sX0_takeBefore_77 {K : Nat → kv_D} (hK : ∀ pc, SX0_takeBefore pc (K pc)) : SX0_takeBefore 77 (fX0_takeBefore_77 K) := k_iinc dX0_takeBefore_77 (by decide +kernel) (by decide) (k_goto dX0_takeBefore_80 rfl (hK 13))
theorem nX0_takeBefore_77 : kv_cn (fun K => fX0_takeBefore_77 K) := cn_iinc 4 (-1) ((cn_K 13))
def fX0_takeBefore_75 (K : Nat → kv_D) : kv_D := o_const 0 (o_iret .boolean)
theorem sX0_takeBefore_75 {K : Nat → kv_D} (hK : ∀ pc, SX0_takeBefore pc (K pc)) : SX0_takeBefore 75 (fX0_takeBefore_75 K) := k_iconst dX0_takeBefore_75 (by decide +kernel) (k_iret dX0_takeBefore_76 rfl)
theorem nX0_takeBefore_75 : kv_cn (fun K => fX0_takeBefore_75 K) := cn_const 0 (cn_c _)
def fX0_takeBefore_63 (K : Nat → kv_D) : kv_D := o_iload 5 (o_aload 1 (o_getf 1 1 (o_iload 4 (o_iald 0 (o_icge (fX0_takeBefore_77 K) (fX0_takeBefore_75 K))))))
theorem sX0_takeBefore_63 {K : Nat → kv_D} (hK : ∀ pc, SX0_takeBefore pc (K pc)) : SX0_takeBefore 63 (fX0_takeBefore_63 K) := k_iload dX0_takeBefore_63 (k_aload_n dX0_takeBefore_65 rfl (k_getN (C := RX1) (T := TX1) (N := 14) (ci := 1) (index := 50) (kf := 1) dX0_takeBefore_66 rfl (fun w h => List.mem_cons_of_mem _ (inX1 w h)) (by decide) mw_59 (k_iload dX0_takeBefore_69 (k_iald dX0_takeBefore_71 rfl (k_icge dX0_takeBefore_72 rfl (sX0_takeBefore_77 hK) (sX0_takeBefore_75 hK))))))
theorem nX0_takeBefore_63 : kv_cn (fun K => fX0_takeBefore_63 K) := cn_iload 5 (cn_aload 1 (cn_getf 1 1 (cn_iload 4 (cn_iald 0 (cn_icge nX0_takeBefore_77 nX0_takeBefore_75)))))
def fX0_takeBefore_54 (K : Nat → kv_D) : kv_D := o_iinc 5 1 (o_iinc 3 (-1) ((K 21)))
theorem sX0_takeBefore_54 {K : Nat → kv_D} (hK : ∀ pc, SX0_takeBefore pc (K pc)) : SX0_takeBefore 54 (fX0_takeBefore_54 K) := k_iinc dX0_takeBefore_54 (by decide +kernel) (by decide) (k_iinc dX0_takeBefore_57 (by decide +kernel) (by decide) (k_goto dX0_takeBefore_60 rfl (hK 21)))
theorem nX0_takeBefore_54 : kv_cn (fun K => fX0_takeBefore_54 K) := cn_iinc 5 1 (cn_iinc 3 (-1) ((cn_K 21)))
def fX0_takeBefore_37 (K : Nat → kv_D) : kv_D := o_aload 2 (o_aload 1 (o_getf 1 0 (o_iload 4 (o_iald 0 (o_iload 3 (o_const 1 (o_isub (o_callV 3 2 mX3_isIn (o_ifeq (fX0_takeBefore_63 K) (fX0_takeBefore_54 K))))))))))
theorem sX0_takeBefore_37 {K : Nat → kv_D} (hK : ∀ pc, SX0_takeBefore pc (K pc)) : SX0_takeBefore 37 (fX0_takeBefore_37 K) := k_aload_n dX0_takeBefore_37 rfl (k_aload_n dX0_takeBefore_38 rfl (k_getN (C := RX1) (T := TX1) (N := 14) (ci := 1) (index := 43) (kf := 0) dX0_takeBefore_39 rfl (fun w h => List.mem_cons_of_mem _ (inX1 w h)) (by decide) mw_57 (k_iload dX0_takeBefore_42 (k_iald dX0_takeBefore_44 rfl (k_iload_n dX0_takeBefore_45 rfl (k_iconst dX0_takeBefore_46 (by decide +kernel) (k_isub dX0_takeBefore_47 (k_callV (q := (RX3, TX3, 4)) dX0_takeBefore_48 cX3_isIn_ct rfl (kv_goodV mw_342 mw_343 mw_344 mw_4 mw_345) (by decide +kernel) rfl (by decide) (by decide) (k_ifeq dX0_takeBefore_51 rfl (sX0_takeBefore_63 hK) (sX0_takeBefore_54 hK))))))))))
theorem nX0_takeBefore_37 : kv_cn (fun K => fX0_takeBefore_37 K) := cn_aload 2 (cn_aload 1 (cn_getf 1 0 (cn_iload 4 (cn_iald 0 (cn_iload 3 (cn_const 1 (cn_isub (cn_callV 3 2 mX3_isIn (cn_ifeq nX0_takeBefore_63 nX0_takeBefore_54)))))))))
def fX0_takeBefore_33 (K : Nat → kv_D) : kv_D := o_iload 3 (o_ifle (fX0_takeBefore_63 K) (fX0_takeBefore_37 K))
theorem sX0_takeBefore_33 {K : Nat → kv_D} (hK : ∀ pc, SX0_takeBefore pc (K pc)) : SX0_takeBefore 33 (fX0_takeBefore_33 K) := k_iload_n dX0_takeBefore_33 rfl (k_ifle dX0_takeBefore_34 rfl (sX0_takeBefore_63 hK) (sX0_takeBefore_37 hK))
theorem nX0_takeBefore_33 : kv_cn (fun K => fX0_takeBefore_33 K) := cn_iload 3 (cn_ifle nX0_takeBefore_63 nX0_takeBefore_37)
def fX0_takeBefore_21 (K : Nat → kv_D) : kv_D := o_iload 5 (o_aload 1 (o_getf 1 2 (o_iload 4 (o_iald 0 (o_icge (fX0_takeBefore_63 K) (fX0_takeBefore_33 K))))))
theorem sX0_takeBefore_21 {K : Nat → kv_D} (hK : ∀ pc, SX0_takeBefore pc (K pc)) : SX0_takeBefore 21 (fX0_takeBefore_21 K) := k_iload dX0_takeBefore_21 (k_aload_n dX0_takeBefore_23 rfl (k_getN (C := RX1) (T := TX1) (N := 14) (ci := 1) (index := 40) (kf := 2) dX0_takeBefore_24 rfl (fun w h => List.mem_cons_of_mem _ (inX1 w h)) (by decide) mw_61 (k_iload dX0_takeBefore_27 (k_iald dX0_takeBefore_29 rfl (k_icge dX0_takeBefore_30 rfl (sX0_takeBefore_63 hK) (sX0_takeBefore_33 hK))))))
theorem nX0_takeBefore_21 : kv_cn (fun K => fX0_takeBefore_21 K) := cn_iload 5 (cn_aload 1 (cn_getf 1 2 (cn_iload 4 (cn_iald 0 (cn_icge nX0_takeBefore_63 nX0_takeBefore_33)))))
def fX0_takeBefore_18 (K : Nat → kv_D) : kv_D := o_const 0 (o_istore 5 ((K 21)))
theorem sX0_takeBefore_18 {K : Nat → kv_D} (hK : ∀ pc, SX0_takeBefore pc (K pc)) : SX0_takeBefore 18 (fX0_takeBefore_18 K) := k_iconst dX0_takeBefore_18 (by decide +kernel) (k_istore dX0_takeBefore_19 (by decide) ((hK 21)))
theorem nX0_takeBefore_18 : kv_cn (fun K => fX0_takeBefore_18 K) := cn_const 0 (cn_istore 5 ((cn_K 21)))
def fX0_takeBefore_13 (K : Nat → kv_D) : kv_D := o_iload 4 (o_iflt (fX0_takeBefore_83 K) (fX0_takeBefore_18 K))
theorem sX0_takeBefore_13 {K : Nat → kv_D} (hK : ∀ pc, SX0_takeBefore pc (K pc)) : SX0_takeBefore 13 (fX0_takeBefore_13 K) := k_iload dX0_takeBefore_13 (k_iflt dX0_takeBefore_15 rfl (sX0_takeBefore_83 hK) (sX0_takeBefore_18 hK))
theorem nX0_takeBefore_13 : kv_cn (fun K => fX0_takeBefore_13 K) := cn_iload 4 (cn_iflt nX0_takeBefore_83 nX0_takeBefore_18)
def fX0_takeBefore_0 (K : Nat → kv_D) : kv_D := o_aload 2 (o_getf 3 3 (o_istore 3 (o_aload 1 (o_getf 1 4 (o_const 1 (o_isub (o_istore 4 ((K 13)))))))))
theorem sX0_takeBefore_0 {K : Nat → kv_D} (hK : ∀ pc, SX0_takeBefore pc (K pc)) : SX0_takeBefore 0 (fX0_takeBefore_0 K) := k_aload_n dX0_takeBefore_0 rfl (k_getN (C := RX3) (T := TX3) (N := 4) (ci := 3) (index := 25) (kf := 3) dX0_takeBefore_1 rfl (fun w h => List.mem_cons_of_mem _ (inX3 w h)) (by decide) mw_131 (k_istore_n dX0_takeBefore_4 rfl (by decide) (k_aload_n dX0_takeBefore_5 rfl (k_getN (C := RX1) (T := TX1) (N := 14) (ci := 1) (index := 19) (kf := 4) dX0_takeBefore_6 rfl (fun w h => List.mem_cons_of_mem _ (inX1 w h)) (by decide) mw_66 (k_iconst dX0_takeBefore_9 (by decide +kernel) (k_isub dX0_takeBefore_10 (k_istore dX0_takeBefore_11 (by decide) ((hK 13)))))))))
theorem nX0_takeBefore_0 : kv_cn (fun K => fX0_takeBefore_0 K) := cn_aload 2 (cn_getf 3 3 (cn_istore 3 (cn_aload 1 (cn_getf 1 4 (cn_const 1 (cn_isub (cn_istore 4 ((cn_K 13)))))))))
def bX0_takeBefore (K : Nat → kv_D) (pc : Nat) : kv_D := if pc = 13 then fX0_takeBefore_13 K else if pc = 21 then fX0_takeBefore_21 K else fun _ _ _ _ _ => False
theorem hX0_takeBefore : ∀ pc, SX0_takeBefore pc (kv_lim (bX0_takeBefore) pc) := kv_lim_S (fun K hK pc => by
  unfold bX0_takeBefore
  by_cases q13 : pc = 13
  · rw [if_pos q13, q13]
    exact sX0_takeBefore_13 hK
  rw [if_neg q13]
  by_cases q21 : pc = 21
  · rw [if_pos q21, q21]
    exact sX0_takeBefore_21 hK
  rw [if_neg q21]
  exact kv_none)
theorem uX0_takeBefore_13 {L : List (Option Value)} {st : List Value} {h : kv_H} {v : Option Value} {h' : kv_H} (hx : fX0_takeBefore_13 (kv_lim (bX0_takeBefore)) L st h v h') : kv_lim (bX0_takeBefore) 13 L st h v h' := kv_un (q := 13) (by have e : (fun K => bX0_takeBefore K 13) = fun K => fX0_takeBefore_13 K := (by funext K; rfl); rw [e]; exact nX0_takeBefore_13) (by have e : bX0_takeBefore (kv_lim (bX0_takeBefore)) 13 = fX0_takeBefore_13 (kv_lim (bX0_takeBefore)) := rfl; rw [e]; exact hx)
theorem uX0_takeBefore_21 {L : List (Option Value)} {st : List Value} {h : kv_H} {v : Option Value} {h' : kv_H} (hx : fX0_takeBefore_21 (kv_lim (bX0_takeBefore)) L st h v h') : kv_lim (bX0_takeBefore) 21 L st h v h' := kv_un (q := 21) (by have e : (fun K => bX0_takeBefore K 21) = fun K => fX0_takeBefore_21 K := (by funext K; rfl); rw [e]; exact nX0_takeBefore_21) (by have e : bX0_takeBefore (kv_lim (bX0_takeBefore)) 21 = fX0_takeBefore_21 (kv_lim (bX0_takeBefore)) := rfl; rw [e]; exact hx)
def mX0_takeBefore : kv_M := kv_in 3 6 (fX0_takeBefore_0 (kv_lim (bX0_takeBefore)))
theorem cX0_takeBefore_ct : kv_CT yX0_takeBefore wX0_takeBefore 1 22 mX0_takeBefore := kv_met (by decide) rfl rfl (by decide) (fun h => by cases h) (sX0_takeBefore_0 (hX0_takeBefore))
-- X0_takeOnward
def wX0_takeOnward : List Cond := Cond.code yX0_takeOnward cX0_takeOnward 9 (some .int) :: kv_tb
abbrev SX0_takeOnward (pc : Nat) (F : kv_D) : Prop := kv_S cX0_takeOnward 9 RX0 wX0_takeOnward (some .int) false 1 22 none pc F
def fX0_takeOnward_126 (K : Nat → kv_D) : kv_D := o_const 1 (o_iret .int)
theorem sX0_takeOnward_126 {K : Nat → kv_D} (hK : ∀ pc, SX0_takeOnward pc (K pc)) : SX0_takeOnward 126 (fX0_takeOnward_126 K) := k_iconst dX0_takeOnward_126 (by decide +kernel) (k_iret dX0_takeOnward_127 rfl)
theorem nX0_takeOnward_126 : kv_cn (fun K => fX0_takeOnward_126 K) := cn_const 1 (cn_c _)
def fX0_takeOnward_109 (K : Nat → kv_D) : kv_D := o_aload 0 (o_getf 0 0 (o_iload 7 (o_const 1 (o_iadd (o_iload 6 (o_iast 0 (fun x => x) (o_iinc 7 1 ((K 11)))))))))
theorem sX0_takeOnward_109 {K : Nat → kv_D} (hK : ∀ pc, SX0_takeOnward pc (K pc)) : SX0_takeOnward 109 (fX0_takeOnward_109 K) := k_aload_n dX0_takeOnward_109 rfl (k_getf (C := RX0) (T := TX0) (N := 1) (ci := 0) (index := 9) (kf := 0) dX0_takeOnward_110 rfl (fun w h => List.mem_cons_of_mem _ (inX0 w h)) (by decide) (List.mem_cons_of_mem _ mw_148) (k_iload dX0_takeOnward_113 (k_iconst dX0_takeOnward_115 (by decide +kernel) (k_iadd dX0_takeOnward_116 (k_iload dX0_takeOnward_117 (k_iast dX0_takeOnward_119 rfl (k_iinc dX0_takeOnward_120 (by decide +kernel) (by decide) (k_goto dX0_takeOnward_123 rfl (hK 11)))))))))
theorem nX0_takeOnward_109 : kv_cn (fun K => fX0_takeOnward_109 K) := cn_aload 0 (cn_getf 0 0 (cn_iload 7 (cn_const 1 (cn_iadd (cn_iload 6 (cn_iast 0 (fun x => x) (cn_iinc 7 1 ((cn_K 11)))))))))
def fX0_takeOnward_107 (K : Nat → kv_D) : kv_D := o_const 0 (o_iret .int)
theorem sX0_takeOnward_107 {K : Nat → kv_D} (hK : ∀ pc, SX0_takeOnward pc (K pc)) : SX0_takeOnward 107 (fX0_takeOnward_107 K) := k_iconst dX0_takeOnward_107 (by decide +kernel) (k_iret dX0_takeOnward_108 rfl)
theorem nX0_takeOnward_107 : kv_cn (fun K => fX0_takeOnward_107 K) := cn_const 0 (cn_c _)
def fX0_takeOnward_95 (K : Nat → kv_D) : kv_D := o_iload 8 (o_aload 1 (o_getf 1 1 (o_iload 7 (o_iald 0 (o_icge (fX0_takeOnward_109 K) (fX0_takeOnward_107 K))))))
theorem sX0_takeOnward_95 {K : Nat → kv_D} (hK : ∀ pc, SX0_takeOnward pc (K pc)) : SX0_takeOnward 95 (fX0_takeOnward_95 K) := k_iload dX0_takeOnward_95 (k_aload_n dX0_takeOnward_97 rfl (k_getN (C := RX1) (T := TX1) (N := 14) (ci := 1) (index := 50) (kf := 1) dX0_takeOnward_98 rfl (fun w h => List.mem_cons_of_mem _ (inX1 w h)) (by decide) mw_59 (k_iload dX0_takeOnward_101 (k_iald dX0_takeOnward_103 rfl (k_icge dX0_takeOnward_104 rfl (sX0_takeOnward_109 hK) (sX0_takeOnward_107 hK))))))
theorem nX0_takeOnward_95 : kv_cn (fun K => fX0_takeOnward_95 K) := cn_iload 8 (cn_aload 1 (cn_getf 1 1 (cn_iload 7 (cn_iald 0 (cn_icge nX0_takeOnward_109 nX0_takeOnward_107)))))
def fX0_takeOnward_93 (K : Nat → kv_D) : kv_D := o_const 2 (o_iret .int)
theorem sX0_takeOnward_93 {K : Nat → kv_D} (hK : ∀ pc, SX0_takeOnward pc (K pc)) : SX0_takeOnward 93 (fX0_takeOnward_93 K) := k_iconst dX0_takeOnward_93 (by decide +kernel) (k_iret dX0_takeOnward_94 rfl)
theorem nX0_takeOnward_93 : kv_cn (fun K => fX0_takeOnward_93 K) := cn_const 2 (cn_c _)
def fX0_takeOnward_81 (K : Nat → kv_D) : kv_D := o_iload 8 (o_aload 1 (o_getf 1 2 (o_iload 7 (o_iald 0 (o_icge (fX0_takeOnward_95 K) (fX0_takeOnward_93 K))))))
theorem sX0_takeOnward_81 {K : Nat → kv_D} (hK : ∀ pc, SX0_takeOnward pc (K pc)) : SX0_takeOnward 81 (fX0_takeOnward_81 K) := k_iload dX0_takeOnward_81 (k_aload_n dX0_takeOnward_83 rfl (k_getN (C := RX1) (T := TX1) (N := 14) (ci := 1) (index := 40) (kf := 2) dX0_takeOnward_84 rfl (fun w h => List.mem_cons_of_mem _ (inX1 w h)) (by decide) mw_61 (k_iload dX0_takeOnward_87 (k_iald dX0_takeOnward_89 rfl (k_icge dX0_takeOnward_90 rfl (sX0_takeOnward_95 hK) (sX0_takeOnward_93 hK))))))
theorem nX0_takeOnward_81 : kv_cn (fun K => fX0_takeOnward_81 K) := cn_iload 8 (cn_aload 1 (cn_getf 1 2 (cn_iload 7 (cn_iald 0 (cn_icge nX0_takeOnward_95 nX0_takeOnward_93)))))
def fX0_takeOnward_72 (K : Nat → kv_D) : kv_D := o_iload 6 (o_aload 2 (o_getf 3 2 (o_icne (fX0_takeOnward_95 K) (fX0_takeOnward_81 K))))
theorem sX0_takeOnward_72 {K : Nat → kv_D} (hK : ∀ pc, SX0_takeOnward pc (K pc)) : SX0_takeOnward 72 (fX0_takeOnward_72 K) := k_iload dX0_takeOnward_72 (k_aload_n dX0_takeOnward_74 rfl (k_getN (C := RX3) (T := TX3) (N := 4) (ci := 3) (index := 53) (kf := 2) dX0_takeOnward_75 rfl (fun w h => List.mem_cons_of_mem _ (inX3 w h)) (by decide) mw_128 (k_icne dX0_takeOnward_78 rfl (sX0_takeOnward_95 hK) (sX0_takeOnward_81 hK))))
theorem nX0_takeOnward_72 : kv_cn (fun K => fX0_takeOnward_72 K) := cn_iload 6 (cn_aload 2 (cn_getf 3 2 (cn_icne nX0_takeOnward_95 nX0_takeOnward_81)))
def fX0_takeOnward_67 (K : Nat → kv_D) : kv_D := o_iload 5 (o_ifne (fX0_takeOnward_95 K) (fX0_takeOnward_72 K))
theorem sX0_takeOnward_67 {K : Nat → kv_D} (hK : ∀ pc, SX0_takeOnward pc (K pc)) : SX0_takeOnward 67 (fX0_takeOnward_67 K) := k_iload dX0_takeOnward_67 (k_ifne dX0_takeOnward_69 rfl (sX0_takeOnward_95 hK) (sX0_takeOnward_72 hK))
theorem nX0_takeOnward_67 : kv_cn (fun K => fX0_takeOnward_67 K) := cn_iload 5 (cn_ifne nX0_takeOnward_95 nX0_takeOnward_72)
def fX0_takeOnward_58 (K : Nat → kv_D) : kv_D := o_iinc 8 1 (o_iinc 6 1 ((K 21)))
theorem sX0_takeOnward_58 {K : Nat → kv_D} (hK : ∀ pc, SX0_takeOnward pc (K pc)) : SX0_takeOnward 58 (fX0_takeOnward_58 K) := k_iinc dX0_takeOnward_58 (by decide +kernel) (by decide) (k_iinc dX0_takeOnward_61 (by decide +kernel) (by decide) (k_goto dX0_takeOnward_64 rfl (hK 21)))
theorem nX0_takeOnward_58 : kv_cn (fun K => fX0_takeOnward_58 K) := cn_iinc 8 1 (cn_iinc 6 1 ((cn_K 21)))
def fX0_takeOnward_42 (K : Nat → kv_D) : kv_D := o_aload 2 (o_aload 1 (o_getf 1 0 (o_iload 7 (o_iald 0 (o_iload 6 (o_callV 3 2 mX3_isIn (o_ifeq (fX0_takeOnward_67 K) (fX0_takeOnward_58 K))))))))
theorem sX0_takeOnward_42 {K : Nat → kv_D} (hK : ∀ pc, SX0_takeOnward pc (K pc)) : SX0_takeOnward 42 (fX0_takeOnward_42 K) := k_aload_n dX0_takeOnward_42 rfl (k_aload_n dX0_takeOnward_43 rfl (k_getN (C := RX1) (T := TX1) (N := 14) (ci := 1) (index := 43) (kf := 0) dX0_takeOnward_44 rfl (fun w h => List.mem_cons_of_mem _ (inX1 w h)) (by decide) mw_57 (k_iload dX0_takeOnward_47 (k_iald dX0_takeOnward_49 rfl (k_iload dX0_takeOnward_50 (k_callV (q := (RX3, TX3, 4)) dX0_takeOnward_52 cX3_isIn_ct rfl (kv_goodV mw_342 mw_343 mw_344 mw_4 mw_345) (by decide +kernel) rfl (by decide) (by decide) (k_ifeq dX0_takeOnward_55 rfl (sX0_takeOnward_67 hK) (sX0_takeOnward_58 hK))))))))
theorem nX0_takeOnward_42 : kv_cn (fun K => fX0_takeOnward_42 K) := cn_aload 2 (cn_aload 1 (cn_getf 1 0 (cn_iload 7 (cn_iald 0 (cn_iload 6 (cn_callV 3 2 mX3_isIn (cn_ifeq nX0_takeOnward_67 nX0_takeOnward_58)))))))
def fX0_takeOnward_33 (K : Nat → kv_D) : kv_D := o_iload 6 (o_aload 2 (o_getf 3 2 (o_icge (fX0_takeOnward_67 K) (fX0_takeOnward_42 K))))
theorem sX0_takeOnward_33 {K : Nat → kv_D} (hK : ∀ pc, SX0_takeOnward pc (K pc)) : SX0_takeOnward 33 (fX0_takeOnward_33 K) := k_iload dX0_takeOnward_33 (k_aload_n dX0_takeOnward_35 rfl (k_getN (C := RX3) (T := TX3) (N := 4) (ci := 3) (index := 53) (kf := 2) dX0_takeOnward_36 rfl (fun w h => List.mem_cons_of_mem _ (inX3 w h)) (by decide) mw_128 (k_icge dX0_takeOnward_39 rfl (sX0_takeOnward_67 hK) (sX0_takeOnward_42 hK))))
theorem nX0_takeOnward_33 : kv_cn (fun K => fX0_takeOnward_33 K) := cn_iload 6 (cn_aload 2 (cn_getf 3 2 (cn_icge nX0_takeOnward_67 nX0_takeOnward_42)))
def fX0_takeOnward_21 (K : Nat → kv_D) : kv_D := o_iload 8 (o_aload 1 (o_getf 1 2 (o_iload 7 (o_iald 0 (o_icge (fX0_takeOnward_67 K) (fX0_takeOnward_33 K))))))
theorem sX0_takeOnward_21 {K : Nat → kv_D} (hK : ∀ pc, SX0_takeOnward pc (K pc)) : SX0_takeOnward 21 (fX0_takeOnward_21 K) := k_iload dX0_takeOnward_21 (k_aload_n dX0_takeOnward_23 rfl (k_getN (C := RX1) (T := TX1) (N := 14) (ci := 1) (index := 40) (kf := 2) dX0_takeOnward_24 rfl (fun w h => List.mem_cons_of_mem _ (inX1 w h)) (by decide) mw_61 (k_iload dX0_takeOnward_27 (k_iald dX0_takeOnward_29 rfl (k_icge dX0_takeOnward_30 rfl (sX0_takeOnward_67 hK) (sX0_takeOnward_33 hK))))))
theorem nX0_takeOnward_21 : kv_cn (fun K => fX0_takeOnward_21 K) := cn_iload 8 (cn_aload 1 (cn_getf 1 2 (cn_iload 7 (cn_iald 0 (cn_icge nX0_takeOnward_67 nX0_takeOnward_33)))))
def fX0_takeOnward_18 (K : Nat → kv_D) : kv_D := o_const 0 (o_istore 8 ((K 21)))
theorem sX0_takeOnward_18 {K : Nat → kv_D} (hK : ∀ pc, SX0_takeOnward pc (K pc)) : SX0_takeOnward 18 (fX0_takeOnward_18 K) := k_iconst dX0_takeOnward_18 (by decide +kernel) (k_istore dX0_takeOnward_19 (by decide) ((hK 21)))
theorem nX0_takeOnward_18 : kv_cn (fun K => fX0_takeOnward_18 K) := cn_const 0 (cn_istore 8 ((cn_K 21)))
def fX0_takeOnward_11 (K : Nat → kv_D) : kv_D := o_iload 7 (o_iload 4 (o_icge (fX0_takeOnward_126 K) (fX0_takeOnward_18 K)))
theorem sX0_takeOnward_11 {K : Nat → kv_D} (hK : ∀ pc, SX0_takeOnward pc (K pc)) : SX0_takeOnward 11 (fX0_takeOnward_11 K) := k_iload dX0_takeOnward_11 (k_iload dX0_takeOnward_13 (k_icge dX0_takeOnward_15 rfl (sX0_takeOnward_126 hK) (sX0_takeOnward_18 hK)))
theorem nX0_takeOnward_11 : kv_cn (fun K => fX0_takeOnward_11 K) := cn_iload 7 (cn_iload 4 (cn_icge nX0_takeOnward_126 nX0_takeOnward_18))
def fX0_takeOnward_0 (K : Nat → kv_D) : kv_D := o_aload 0 (o_getf 0 0 (o_iload 3 (o_iald 0 (o_istore 6 (o_iload 3 (o_istore 7 ((K 11))))))))
theorem sX0_takeOnward_0 {K : Nat → kv_D} (hK : ∀ pc, SX0_takeOnward pc (K pc)) : SX0_takeOnward 0 (fX0_takeOnward_0 K) := k_aload_n dX0_takeOnward_0 rfl (k_getf (C := RX0) (T := TX0) (N := 1) (ci := 0) (index := 9) (kf := 0) dX0_takeOnward_1 rfl (fun w h => List.mem_cons_of_mem _ (inX0 w h)) (by decide) (List.mem_cons_of_mem _ mw_148) (k_iload_n dX0_takeOnward_4 rfl (k_iald dX0_takeOnward_5 rfl (k_istore dX0_takeOnward_6 (by decide) (k_iload_n dX0_takeOnward_8 rfl (k_istore dX0_takeOnward_9 (by decide) ((hK 11))))))))
theorem nX0_takeOnward_0 : kv_cn (fun K => fX0_takeOnward_0 K) := cn_aload 0 (cn_getf 0 0 (cn_iload 3 (cn_iald 0 (cn_istore 6 (cn_iload 3 (cn_istore 7 ((cn_K 11))))))))
def bX0_takeOnward (K : Nat → kv_D) (pc : Nat) : kv_D := if pc = 11 then fX0_takeOnward_11 K else if pc = 21 then fX0_takeOnward_21 K else fun _ _ _ _ _ => False
theorem hX0_takeOnward : ∀ pc, SX0_takeOnward pc (kv_lim (bX0_takeOnward) pc) := kv_lim_S (fun K hK pc => by
  unfold bX0_takeOnward
  by_cases q11 : pc = 11
  · rw [if_pos q11, q11]
    exact sX0_takeOnward_11 hK
  rw [if_neg q11]
  by_cases q21 : pc = 21
  · rw [if_pos q21, q21]
    exact sX0_takeOnward_21 hK
  rw [if_neg q21]
  exact kv_none)
theorem uX0_takeOnward_11 {L : List (Option Value)} {st : List Value} {h : kv_H} {v : Option Value} {h' : kv_H} (hx : fX0_takeOnward_11 (kv_lim (bX0_takeOnward)) L st h v h') : kv_lim (bX0_takeOnward) 11 L st h v h' := kv_un (q := 11) (by have e : (fun K => bX0_takeOnward K 11) = fun K => fX0_takeOnward_11 K := (by funext K; rfl); rw [e]; exact nX0_takeOnward_11) (by have e : bX0_takeOnward (kv_lim (bX0_takeOnward)) 11 = fX0_takeOnward_11 (kv_lim (bX0_takeOnward)) := rfl; rw [e]; exact hx)
theorem uX0_takeOnward_21 {L : List (Option Value)} {st : List Value} {h : kv_H} {v : Option Value} {h' : kv_H} (hx : fX0_takeOnward_21 (kv_lim (bX0_takeOnward)) L st h v h') : kv_lim (bX0_takeOnward) 21 L st h v h' := kv_un (q := 21) (by have e : (fun K => bX0_takeOnward K 21) = fun K => fX0_takeOnward_21 K := (by funext K; rfl); rw [e]; exact nX0_takeOnward_21) (by have e : bX0_takeOnward (kv_lim (bX0_takeOnward)) 21 = fX0_takeOnward_21 (kv_lim (bX0_takeOnward)) := rfl; rw [e]; exact hx)
def mX0_takeOnward : kv_M := kv_in 6 9 (fX0_takeOnward_0 (kv_lim (bX0_takeOnward)))
theorem cX0_takeOnward_ct : kv_CT yX0_takeOnward wX0_takeOnward 1 22 mX0_takeOnward := kv_met (by decide) rfl rfl (by decide) (fun h => by cases h) (sX0_takeOnward_0 (hX0_takeOnward))
-- X0_run
def wX0_run : List Cond := Cond.code yX0_run cX0_run 5 (some .int) :: kv_tb
abbrev SX0_run (pc : Nat) (F : kv_D) : Prop := kv_S cX0_run 5 RX0 wX0_run (some .int) false 2 50 none pc F
def fX0_run_68 : kv_D := o_aload 0 (o_aload 1 (o_aload 2 (o_aload 1 (o_getf 1 5 (o_aload 1 (o_getf 1 3 (o_iload 3 (o_callV 0 5 mX0_takeOnward (o_iret .int)))))))))
theorem sX0_run_68 : SX0_run 68 (fX0_run_68) := k_aload_n dX0_run_68 rfl (k_aload_n dX0_run_69 rfl (k_aload_n dX0_run_70 rfl (k_aload_n dX0_run_71 rfl (k_getN (C := RX1) (T := TX1) (N := 14) (ci := 1) (index := 30) (kf := 5) dX0_run_72 rfl (fun w h => List.mem_cons_of_mem _ (inX1 w h)) (by decide) mw_69 (k_aload_n dX0_run_75 rfl (k_getN (C := RX1) (T := TX1) (N := 14) (ci := 1) (index := 37) (kf := 3) dX0_run_76 rfl (fun w h => List.mem_cons_of_mem _ (inX1 w h)) (by decide) mw_63 (k_iload_n dX0_run_79 rfl (k_callV (q := (RX0, TX0, 1)) dX0_run_80 cX0_takeOnward_ct rfl (kv_goodV mw_346 mw_348 sel_X0_takeOnward mw_5 mw_349) (by decide +kernel) rfl (by decide) (by decide) (k_iret dX0_run_83 rfl)))))))))
def fX0_run_66 : kv_D := o_const 0 (o_iret .int)
theorem sX0_run_66 : SX0_run 66 (fX0_run_66) := k_iconst dX0_run_66 (by decide +kernel) (k_iret dX0_run_67 rfl)
def fX0_run_50 : kv_D := o_aload 0 (o_getf 0 0 (o_aload 1 (o_getf 1 5 (o_iald 0 (o_aload 2 (o_getf 3 3 (o_icne (fX0_run_68) (fX0_run_66))))))))
theorem sX0_run_50 : SX0_run 50 (fX0_run_50) := k_aload_n dX0_run_50 rfl (k_getf (C := RX0) (T := TX0) (N := 1) (ci := 0) (index := 9) (kf := 0) dX0_run_51 rfl (fun w h => List.mem_cons_of_mem _ (inX0 w h)) (by decide) (List.mem_cons_of_mem _ mw_148) (k_aload_n dX0_run_54 rfl (k_getN (C := RX1) (T := TX1) (N := 14) (ci := 1) (index := 30) (kf := 5) dX0_run_55 rfl (fun w h => List.mem_cons_of_mem _ (inX1 w h)) (by decide) mw_69 (k_iald dX0_run_58 rfl (k_aload_n dX0_run_59 rfl (k_getN (C := RX3) (T := TX3) (N := 4) (ci := 3) (index := 25) (kf := 3) dX0_run_60 rfl (fun w h => List.mem_cons_of_mem _ (inX3 w h)) (by decide) mw_131 (k_icne dX0_run_63 rfl (sX0_run_68) (sX0_run_66))))))))
def fX0_run_47 : kv_D := o_iload 4 (o_iret .int)
theorem sX0_run_47 : SX0_run 47 (fX0_run_47) := k_iload dX0_run_47 (k_iret dX0_run_49 rfl)
def fX0_run_11 : kv_D := o_aload 0 (o_getf 0 0 (o_aload 1 (o_getf 1 4 (o_aload 2 (o_getf 3 3 (o_iast 0 (fun x => x) (o_aload 0 (o_aload 1 (o_aload 2 (o_aload 1 (o_getf 1 4 (o_aload 1 (o_getf 1 5 (o_iload 3 (o_callV 0 5 mX0_takeOnward (o_istore 4 (o_iload 4 (o_const 1 (o_iceq (fX0_run_50) (fX0_run_47))))))))))))))))))))
theorem sX0_run_11 : SX0_run 11 (fX0_run_11) := k_aload_n dX0_run_11 rfl (k_getf (C := RX0) (T := TX0) (N := 1) (ci := 0) (index := 9) (kf := 0) dX0_run_12 rfl (fun w h => List.mem_cons_of_mem _ (inX0 w h)) (by decide) (List.mem_cons_of_mem _ mw_148) (k_aload_n dX0_run_15 rfl (k_getN (C := RX1) (T := TX1) (N := 14) (ci := 1) (index := 19) (kf := 4) dX0_run_16 rfl (fun w h => List.mem_cons_of_mem _ (inX1 w h)) (by decide) mw_66 (k_aload_n dX0_run_19 rfl (k_getN (C := RX3) (T := TX3) (N := 4) (ci := 3) (index := 25) (kf := 3) dX0_run_20 rfl (fun w h => List.mem_cons_of_mem _ (inX3 w h)) (by decide) mw_131 (k_iast dX0_run_23 rfl (k_aload_n dX0_run_24 rfl (k_aload_n dX0_run_25 rfl (k_aload_n dX0_run_26 rfl (k_aload_n dX0_run_27 rfl (k_getN (C := RX1) (T := TX1) (N := 14) (ci := 1) (index := 19) (kf := 4) dX0_run_28 rfl (fun w h => List.mem_cons_of_mem _ (inX1 w h)) (by decide) mw_66 (k_aload_n dX0_run_31 rfl (k_getN (C := RX1) (T := TX1) (N := 14) (ci := 1) (index := 30) (kf := 5) dX0_run_32 rfl (fun w h => List.mem_cons_of_mem _ (inX1 w h)) (by decide) mw_69 (k_iload_n dX0_run_35 rfl (k_callV (q := (RX0, TX0, 1)) dX0_run_36 cX0_takeOnward_ct rfl (kv_goodV mw_346 mw_348 sel_X0_takeOnward mw_5 mw_349) (by decide +kernel) rfl (by decide) (by decide) (k_istore dX0_run_39 (by decide) (k_iload dX0_run_41 (k_iconst dX0_run_43 (by decide +kernel) (k_iceq dX0_run_44 rfl (sX0_run_50) (sX0_run_47))))))))))))))))))))
def fX0_run_9 : kv_D := o_const 0 (o_iret .int)
theorem sX0_run_9 : SX0_run 9 (fX0_run_9) := k_iconst dX0_run_9 (by decide +kernel) (k_iret dX0_run_10 rfl)
def fX0_run_0 : kv_D := o_aload 0 (o_aload 1 (o_aload 2 (o_callV 0 2 mX0_takeBefore (o_ifne (fX0_run_11) (fX0_run_9)))))
theorem sX0_run_0 : SX0_run 0 (fX0_run_0) := k_aload_n dX0_run_0 rfl (k_aload_n dX0_run_1 rfl (k_aload_n dX0_run_2 rfl (k_callV (q := (RX0, TX0, 1)) dX0_run_3 cX0_takeBefore_ct rfl (kv_goodV mw_338 mw_340 sel_X0_takeBefore mw_5 mw_341) (by decide +kernel) rfl (by decide) (by decide) (k_ifne dX0_run_6 rfl (sX0_run_11) (sX0_run_9)))))
def mX0_run : kv_M := kv_in 4 5 (fX0_run_0)
theorem cX0_run_ct : kv_CT yX0_run wX0_run 2 50 mX0_run := kv_met (by decide) rfl rfl (by decide) (fun h => by cases h) (sX0_run_0)
-- X0_segmentWidth
def wX0_segmentWidth : List Cond := Cond.code yX0_segmentWidth cX0_segmentWidth 4 (some .int) :: kv_tb
abbrev SX0_segmentWidth (pc : Nat) (F : kv_D) : Prop := kv_S cX0_segmentWidth 4 RX0 wX0_segmentWidth (some .int) false 0 0 none pc F
def fX0_segmentWidth_0 : kv_D := o_iload 2 (o_const 49 (o_isub (o_istore 3 (o_aload 0 (o_getf 0 0 (o_aload 1 (o_getf 1 8 (o_iload 3 (o_iald 0 (o_iald 0 (o_aload 0 (o_getf 0 0 (o_aload 1 (o_getf 1 7 (o_iload 3 (o_iald 0 (o_iald 0 (o_isub (o_iret .int)))))))))))))))))))
theorem sX0_segmentWidth_0 : SX0_segmentWidth 0 (fX0_segmentWidth_0) := k_iload_n dX0_segmentWidth_0 rfl (k_bipush dX0_segmentWidth_1 (by decide +kernel) (k_isub dX0_segmentWidth_3 (k_istore_n dX0_segmentWidth_4 rfl (by decide) (k_aload_n dX0_segmentWidth_5 rfl (k_getf (C := RX0) (T := TX0) (N := 1) (ci := 0) (index := 9) (kf := 0) dX0_segmentWidth_6 rfl (fun w h => List.mem_cons_of_mem _ (inX0 w h)) (by decide) (List.mem_cons_of_mem _ mw_148) (k_aload_n dX0_segmentWidth_9 rfl (k_getN (C := RX1) (T := TX1) (N := 14) (ci := 1) (index := 59) (kf := 8) dX0_segmentWidth_10 rfl (fun w h => List.mem_cons_of_mem _ (inX1 w h)) (by decide) mw_76 (k_iload_n dX0_segmentWidth_13 rfl (k_iald dX0_segmentWidth_14 rfl (k_iald dX0_segmentWidth_15 rfl (k_aload_n dX0_segmentWidth_16 rfl (k_getf (C := RX0) (T := TX0) (N := 1) (ci := 0) (index := 9) (kf := 0) dX0_segmentWidth_17 rfl (fun w h => List.mem_cons_of_mem _ (inX0 w h)) (by decide) (List.mem_cons_of_mem _ mw_148) (k_aload_n dX0_segmentWidth_20 rfl (k_getN (C := RX1) (T := TX1) (N := 14) (ci := 1) (index := 56) (kf := 7) dX0_segmentWidth_21 rfl (fun w h => List.mem_cons_of_mem _ (inX1 w h)) (by decide) mw_74 (k_iload_n dX0_segmentWidth_24 rfl (k_iald dX0_segmentWidth_25 rfl (k_iald dX0_segmentWidth_26 rfl (k_isub dX0_segmentWidth_27 (k_iret dX0_segmentWidth_28 rfl)))))))))))))))))))
def mX0_segmentWidth : kv_M := kv_in 3 4 (fX0_segmentWidth_0)
theorem cX0_segmentWidth_ct : kv_CT yX0_segmentWidth wX0_segmentWidth 0 0 mX0_segmentWidth := kv_met (by decide) rfl rfl (by decide) (fun h => by cases h) (sX0_segmentWidth_0)
-- X3_widthOf
def wX3_widthOf : List Cond := Cond.code yX3_widthOf cX3_widthOf 6 (some .int) :: kv_tb
abbrev SX3_widthOf (pc : Nat) (F : kv_D) : Prop := kv_S cX3_widthOf 6 RX3 wX3_widthOf (some .int) false 1 23 none pc F
def fX3_widthOf_48 (K : Nat → kv_D) : kv_D := o_iload 3 (o_iret .int)
theorem sX3_widthOf_48 {K : Nat → kv_D} (hK : ∀ pc, SX3_widthOf pc (K pc)) : SX3_widthOf 48 (fX3_widthOf_48 K) := k_iload_n dX3_widthOf_48 rfl (k_iret dX3_widthOf_49 rfl)
theorem nX3_widthOf_48 : kv_cn (fun K => fX3_widthOf_48 K) := cn_iload 3 (cn_c _)
def fX3_widthOf_40 (K : Nat → kv_D) : kv_D := o_iadd (o_istore 3 (o_iinc 4 1 ((K 5))))
theorem sX3_widthOf_40 {K : Nat → kv_D} (hK : ∀ pc, SX3_widthOf pc (K pc)) : SX3_widthOf 40 (fX3_widthOf_40 K) := k_iadd dX3_widthOf_40 (k_istore_n dX3_widthOf_41 rfl (by decide) (k_iinc dX3_widthOf_42 (by decide +kernel) (by decide) (k_goto dX3_widthOf_45 rfl (hK 5))))
theorem nX3_widthOf_40 : kv_cn (fun K => fX3_widthOf_40 K) := cn_iadd (cn_istore 3 (cn_iinc 4 1 ((cn_K 5))))
def fX3_widthOf_33 (K : Nat → kv_D) : kv_D := o_aload 1 (o_aload 0 (o_iload 5 (o_callV 0 2 mX0_segmentWidth ((fX3_widthOf_40 K)))))
theorem sX3_widthOf_33 {K : Nat → kv_D} (hK : ∀ pc, SX3_widthOf pc (K pc)) : SX3_widthOf 33 (fX3_widthOf_33 K) := k_aload_n dX3_widthOf_33 rfl (k_aload_n dX3_widthOf_34 rfl (k_iload dX3_widthOf_35 (k_callV (q := (RX0, TX0, 1)) dX3_widthOf_37 cX0_segmentWidth_ct rfl (kv_goodV mw_362 mw_363 mw_364 mw_5 mw_365) (by decide +kernel) rfl (by decide) (by decide) ((sX3_widthOf_40 hK)))))
theorem nX3_widthOf_33 : kv_cn (fun K => fX3_widthOf_33 K) := cn_aload 1 (cn_aload 0 (cn_iload 5 (cn_callV 0 2 mX0_segmentWidth (nX3_widthOf_40))))
def fX3_widthOf_29 (K : Nat → kv_D) : kv_D := o_const 1 ((fX3_widthOf_40 K))
theorem sX3_widthOf_29 {K : Nat → kv_D} (hK : ∀ pc, SX3_widthOf pc (K pc)) : SX3_widthOf 29 (fX3_widthOf_29 K) := k_iconst dX3_widthOf_29 (by decide +kernel) (k_goto dX3_widthOf_30 rfl (sX3_widthOf_40 hK))
theorem nX3_widthOf_29 : kv_cn (fun K => fX3_widthOf_29 K) := cn_const 1 (nX3_widthOf_40)
def fX3_widthOf_11 (K : Nat → kv_D) : kv_D := o_aload 0 (o_getf 1 10 (o_iload 4 (o_iald 1 (o_istore 5 (o_iload 3 (o_iload 5 (o_callS 1 mX4_isSmall (o_ifeq (fX3_widthOf_33 K) (fX3_widthOf_29 K)))))))))
theorem sX3_widthOf_11 {K : Nat → kv_D} (hK : ∀ pc, SX3_widthOf pc (K pc)) : SX3_widthOf 11 (fX3_widthOf_11 K) := k_aload_n dX3_widthOf_11 rfl (k_getN (C := RX1) (T := TX1) (N := 14) (ci := 1) (index := 56) (kf := 10) dX3_widthOf_12 rfl (fun w h => List.mem_cons_of_mem _ (inX1 w h)) (by decide) mw_80 (k_iload dX3_widthOf_15 (k_cald dX3_widthOf_17 rfl (k_istore dX3_widthOf_18 (by decide) (k_iload_n dX3_widthOf_20 rfl (k_iload dX3_widthOf_21 (k_callSN dX3_widthOf_23 cX4_isSmall_ct rfl (kv_goodC mw_207) mw_361 (List.mem_cons_of_mem _ mw_1) (List.mem_cons_of_mem _ mw_206) (by decide +kernel) (by decide) (by decide) (k_ifeq dX3_widthOf_26 rfl (sX3_widthOf_33 hK) (sX3_widthOf_29 hK)))))))))
theorem nX3_widthOf_11 : kv_cn (fun K => fX3_widthOf_11 K) := cn_aload 0 (cn_getf 1 10 (cn_iload 4 (cn_iald 1 (cn_istore 5 (cn_iload 3 (cn_iload 5 (cn_callS 1 mX4_isSmall (cn_ifeq nX3_widthOf_33 nX3_widthOf_29))))))))
def fX3_widthOf_5 (K : Nat → kv_D) : kv_D := o_iload 4 (o_iload 2 (o_icge (fX3_widthOf_48 K) (fX3_widthOf_11 K)))
theorem sX3_widthOf_5 {K : Nat → kv_D} (hK : ∀ pc, SX3_widthOf pc (K pc)) : SX3_widthOf 5 (fX3_widthOf_5 K) := k_iload dX3_widthOf_5 (k_iload_n dX3_widthOf_7 rfl (k_icge dX3_widthOf_8 rfl (sX3_widthOf_48 hK) (sX3_widthOf_11 hK)))
theorem nX3_widthOf_5 : kv_cn (fun K => fX3_widthOf_5 K) := cn_iload 4 (cn_iload 2 (cn_icge nX3_widthOf_48 nX3_widthOf_11))
def fX3_widthOf_0 (K : Nat → kv_D) : kv_D := o_const 0 (o_istore 3 (o_const 0 (o_istore 4 ((K 5)))))
theorem sX3_widthOf_0 {K : Nat → kv_D} (hK : ∀ pc, SX3_widthOf pc (K pc)) : SX3_widthOf 0 (fX3_widthOf_0 K) := k_iconst dX3_widthOf_0 (by decide +kernel) (k_istore_n dX3_widthOf_1 rfl (by decide) (k_iconst dX3_widthOf_2 (by decide +kernel) (k_istore dX3_widthOf_3 (by decide) ((hK 5)))))
theorem nX3_widthOf_0 : kv_cn (fun K => fX3_widthOf_0 K) := cn_const 0 (cn_istore 3 (cn_const 0 (cn_istore 4 ((cn_K 5)))))
def bX3_widthOf (K : Nat → kv_D) (pc : Nat) : kv_D := if pc = 5 then fX3_widthOf_5 K else fun _ _ _ _ _ => False
theorem hX3_widthOf : ∀ pc, SX3_widthOf pc (kv_lim (bX3_widthOf) pc) := kv_lim_S (fun K hK pc => by
  unfold bX3_widthOf
  by_cases q5 : pc = 5
  · rw [if_pos q5, q5]
    exact sX3_widthOf_5 hK
  rw [if_neg q5]
  exact kv_none)
theorem uX3_widthOf_5 {L : List (Option Value)} {st : List Value} {h : kv_H} {v : Option Value} {h' : kv_H} (hx : fX3_widthOf_5 (kv_lim (bX3_widthOf)) L st h v h') : kv_lim (bX3_widthOf) 5 L st h v h' := kv_un (q := 5) (by have e : (fun K => bX3_widthOf K 5) = fun K => fX3_widthOf_5 K := (by funext K; rfl); rw [e]; exact nX3_widthOf_5) (by have e : bX3_widthOf (kv_lim (bX3_widthOf)) 5 = fX3_widthOf_5 (kv_lim (bX3_widthOf)) := rfl; rw [e]; exact hx)
def mX3_widthOf : kv_M := kv_in 3 6 (fX3_widthOf_0 (kv_lim (bX3_widthOf)))
theorem cX3_widthOf_ct : kv_CT yX3_widthOf wX3_widthOf 1 23 mX3_widthOf := kv_met (by decide) rfl rfl (by decide) (fun h => by cases h) (sX3_widthOf_0 (hX3_widthOf))
-- X3_sizeAfter
def wX3_sizeAfter : List Cond := Cond.code yX3_sizeAfter cX3_sizeAfter 4 (some .int) :: kv_tb
abbrev SX3_sizeAfter (pc : Nat) (F : kv_D) : Prop := kv_S cX3_sizeAfter 4 RX3 wX3_sizeAfter (some .int) false 2 48 none pc F
def fX3_sizeAfter_0 : kv_D := o_aload 2 (o_getf 0 0 (o_aload 1 (o_getf 1 5 (o_iald 0 (o_aload 0 (o_getf 3 3 (o_isub (o_istore 3 (o_aload 0 (o_getf 3 2 (o_iload 3 (o_isub (o_aload 1 (o_aload 2 (o_aload 1 (o_getf 1 11 (o_callS 3 mX3_widthOf (o_iadd (o_iret .int)))))))))))))))))))
theorem sX3_sizeAfter_0 : SX3_sizeAfter 0 (fX3_sizeAfter_0) := k_aload_n dX3_sizeAfter_0 rfl (k_getN (C := RX0) (T := TX0) (N := 1) (ci := 0) (index := 25) (kf := 0) dX3_sizeAfter_1 rfl (fun w h => List.mem_cons_of_mem _ (inX0 w h)) (by decide) mw_149 (k_aload_n dX3_sizeAfter_4 rfl (k_getN (C := RX1) (T := TX1) (N := 14) (ci := 1) (index := 31) (kf := 5) dX3_sizeAfter_5 rfl (fun w h => List.mem_cons_of_mem _ (inX1 w h)) (by decide) mw_70 (k_iald dX3_sizeAfter_8 rfl (k_aload_n dX3_sizeAfter_9 rfl (k_getf (C := RX3) (T := TX3) (N := 4) (ci := 3) (index := 22) (kf := 3) dX3_sizeAfter_10 rfl (fun w h => List.mem_cons_of_mem _ (inX3 w h)) (by decide) (List.mem_cons_of_mem _ mw_130) (k_isub dX3_sizeAfter_13 (k_istore_n dX3_sizeAfter_14 rfl (by decide) (k_aload_n dX3_sizeAfter_15 rfl (k_getf (C := RX3) (T := TX3) (N := 4) (ci := 3) (index := 18) (kf := 2) dX3_sizeAfter_16 rfl (fun w h => List.mem_cons_of_mem _ (inX3 w h)) (by decide) (List.mem_cons_of_mem _ mw_127) (k_iload_n dX3_sizeAfter_19 rfl (k_isub dX3_sizeAfter_20 (k_aload_n dX3_sizeAfter_21 rfl (k_aload_n dX3_sizeAfter_22 rfl (k_aload_n dX3_sizeAfter_23 rfl (k_getN (C := RX1) (T := TX1) (N := 14) (ci := 1) (index := 36) (kf := 11) dX3_sizeAfter_24 rfl (fun w h => List.mem_cons_of_mem _ (inX1 w h)) (by decide) mw_82 (k_callS dX3_sizeAfter_27 cX3_widthOf_ct rfl (kv_goodS mw_358 mw_359 mw_4 mw_360) (by decide +kernel) (by decide) (by decide) (k_iadd dX3_sizeAfter_30 (k_iret dX3_sizeAfter_31 rfl)))))))))))))))))))
def mX3_sizeAfter : kv_M := kv_in 3 4 (fX3_sizeAfter_0)
theorem cX3_sizeAfter_ct : kv_CT yX3_sizeAfter wX3_sizeAfter 2 48 mX3_sizeAfter := kv_met (by decide) rfl rfl (by decide) (fun h => by cases h) (sX3_sizeAfter_0)
-- X0_segmentBegin
def wX0_segmentBegin : List Cond := Cond.code yX0_segmentBegin cX0_segmentBegin 3 (some .int) :: kv_tb
abbrev SX0_segmentBegin (pc : Nat) (F : kv_D) : Prop := kv_S cX0_segmentBegin 3 RX0 wX0_segmentBegin (some .int) false 0 0 none pc F
def fX0_segmentBegin_0 : kv_D := o_aload 0 (o_getf 0 0 (o_aload 1 (o_getf 1 7 (o_iload 2 (o_const 49 (o_isub (o_iald 0 (o_iald 0 (o_iret .int)))))))))
theorem sX0_segmentBegin_0 : SX0_segmentBegin 0 (fX0_segmentBegin_0) := k_aload_n dX0_segmentBegin_0 rfl (k_getf (C := RX0) (T := TX0) (N := 1) (ci := 0) (index := 9) (kf := 0) dX0_segmentBegin_1 rfl (fun w h => List.mem_cons_of_mem _ (inX0 w h)) (by decide) (List.mem_cons_of_mem _ mw_148) (k_aload_n dX0_segmentBegin_4 rfl (k_getN (C := RX1) (T := TX1) (N := 14) (ci := 1) (index := 56) (kf := 7) dX0_segmentBegin_5 rfl (fun w h => List.mem_cons_of_mem _ (inX1 w h)) (by decide) mw_74 (k_iload_n dX0_segmentBegin_8 rfl (k_bipush dX0_segmentBegin_9 (by decide +kernel) (k_isub dX0_segmentBegin_11 (k_iald dX0_segmentBegin_12 rfl (k_iald dX0_segmentBegin_13 rfl (k_iret dX0_segmentBegin_14 rfl)))))))))
def mX0_segmentBegin : kv_M := kv_in 3 3 (fX0_segmentBegin_0)
theorem cX0_segmentBegin_ct : kv_CT yX0_segmentBegin wX0_segmentBegin 0 0 mX0_segmentBegin := kv_met (by decide) rfl rfl (by decide) (fun h => by cases h) (sX0_segmentBegin_0)
end
section
theorem dX3_putPiece_30 : decode cX3_putPiece 30 = .ok (.aload_n 2, 1) := by decide +kernel
theorem dX3_putPiece_31 : decode cX3_putPiece 31 = .ok (.aload_n 1, 1) := by decide +kernel
theorem dX3_putPiece_32 : decode cX3_putPiece 32 = .ok (.iload 5, 2) := by decide +kernel
theorem dX3_putPiece_34 : decode cX3_putPiece 34 = .ok (.invokevirtual 63, 3) := by decide +kernel
theorem dX3_putPiece_37 : decode cX3_putPiece 37 = .ok (.istore 6, 2) := by decide +kernel
theorem dX3_putPiece_39 : decode cX3_putPiece 39 = .ok (.aload_n 0, 1) := by decide +kernel
theorem dX3_putPiece_40 : decode cX3_putPiece 40 = .ok (.getfield 9, 3) := by decide +kernel
theorem dX3_putPiece_43 : decode cX3_putPiece 43 = .ok (.aload_n 2, 1) := by decide +kernel
theorem dX3_putPiece_44 : decode cX3_putPiece 44 = .ok (.aload_n 1, 1) := by decide +kernel
theorem dX3_putPiece_45 : decode cX3_putPiece 45 = .ok (.iload 5, 2) := by decide +kernel
theorem dX3_putPiece_47 : decode cX3_putPiece 47 = .ok (.invokevirtual 67, 3) := by decide +kernel
theorem dX3_putPiece_50 : decode cX3_putPiece 50 = .ok (.aload_n 0, 1) := by decide +kernel
theorem dX3_putPiece_51 : decode cX3_putPiece 51 = .ok (.getfield 15, 3) := by decide +kernel
theorem dX3_putPiece_54 : decode cX3_putPiece 54 = .ok (.iload 4, 2) := by decide +kernel
theorem dX3_putPiece_56 : decode cX3_putPiece 56 = .ok (.iload 6, 2) := by decide +kernel
theorem dX3_putPiece_58 : decode cX3_putPiece 58 = .ok (.invokestatic 43, 3) := by decide +kernel
theorem dX3_putPiece_61 : decode cX3_putPiece 61 = .ok (.iload 4, 2) := by decide +kernel
theorem dX3_putPiece_63 : decode cX3_putPiece 63 = .ok (.iload 6, 2) := by decide +kernel
theorem dX3_putPiece_65 : decode cX3_putPiece 65 = .ok (.iadd, 1) := by decide +kernel
theorem dX3_putPiece_66 : decode cX3_putPiece 66 = .ok (.ireturn, 1) := by decide +kernel
theorem dX3_putPiece_16 : decode cX3_putPiece 16 = .ok (.aload_n 0, 1) := by decide +kernel
theorem dX3_putPiece_17 : decode cX3_putPiece 17 = .ok (.getfield 15, 3) := by decide +kernel
theorem dX3_putPiece_20 : decode cX3_putPiece 20 = .ok (.iload 4, 2) := by decide +kernel
theorem dX3_putPiece_22 : decode cX3_putPiece 22 = .ok (.iload 5, 2) := by decide +kernel
theorem dX3_putPiece_24 : decode cX3_putPiece 24 = .ok (.castore, 1) := by decide +kernel
theorem dX3_putPiece_25 : decode cX3_putPiece 25 = .ok (.iload 4, 2) := by decide +kernel
theorem dX3_putPiece_27 : decode cX3_putPiece 27 = .ok (.iconst 1, 1) := by decide +kernel
theorem dX3_putPiece_28 : decode cX3_putPiece 28 = .ok (.iadd, 1) := by decide +kernel
theorem dX3_putPiece_29 : decode cX3_putPiece 29 = .ok (.ireturn, 1) := by decide +kernel
theorem dX3_putPiece_0 : decode cX3_putPiece 0 = .ok (.aload_n 1, 1) := by decide +kernel
theorem dX3_putPiece_1 : decode cX3_putPiece 1 = .ok (.getfield 56, 3) := by decide +kernel
theorem dX3_putPiece_4 : decode cX3_putPiece 4 = .ok (.iload_n 3, 1) := by decide +kernel
theorem dX3_putPiece_5 : decode cX3_putPiece 5 = .ok (.caload, 1) := by decide +kernel
theorem dX3_putPiece_6 : decode cX3_putPiece 6 = .ok (.istore 5, 2) := by decide +kernel
theorem dX3_putPiece_8 : decode cX3_putPiece 8 = .ok (.iload 5, 2) := by decide +kernel
theorem dX3_putPiece_10 : decode cX3_putPiece 10 = .ok (.invokestatic 59, 3) := by decide +kernel
theorem dX3_putPiece_13 : decode cX3_putPiece 13 = .ok (.ifCond .eq 17, 3) := by decide +kernel
theorem dX3_replace_50 : decode cX3_replace 50 = .ok (.aload_n 2, 1) := by decide +kernel
theorem dX3_replace_51 : decode cX3_replace 51 = .ok (.getfield 25, 3) := by decide +kernel
theorem dX3_replace_54 : decode cX3_replace 54 = .ok (.aload_n 1, 1) := by decide +kernel
theorem dX3_replace_55 : decode cX3_replace 55 = .ok (.getfield 31, 3) := by decide +kernel
theorem dX3_replace_58 : decode cX3_replace 58 = .ok (.iaload, 1) := by decide +kernel
theorem dX3_replace_59 : decode cX3_replace 59 = .ok (.istore 4, 2) := by decide +kernel
theorem dX3_replace_61 : decode cX3_replace 61 = .ok (.aload_n 0, 1) := by decide +kernel
theorem dX3_replace_62 : decode cX3_replace 62 = .ok (.getfield 9, 3) := by decide +kernel
theorem dX3_replace_65 : decode cX3_replace 65 = .ok (.iload 4, 2) := by decide +kernel
theorem dX3_replace_67 : decode cX3_replace 67 = .ok (.aload_n 0, 1) := by decide +kernel
theorem dX3_replace_68 : decode cX3_replace 68 = .ok (.getfield 15, 3) := by decide +kernel
theorem dX3_replace_71 : decode cX3_replace 71 = .ok (.iload_n 3, 1) := by decide +kernel
theorem dX3_replace_72 : decode cX3_replace 72 = .ok (.aload_n 0, 1) := by decide +kernel
theorem dX3_replace_73 : decode cX3_replace 73 = .ok (.getfield 18, 3) := by decide +kernel
theorem dX3_replace_76 : decode cX3_replace 76 = .ok (.iload 4, 2) := by decide +kernel
theorem dX3_replace_78 : decode cX3_replace 78 = .ok (.isub, 1) := by decide +kernel
theorem dX3_replace_79 : decode cX3_replace 79 = .ok (.invokestatic 43, 3) := by decide +kernel
theorem dX3_replace_82 : decode cX3_replace 82 = .ok (.aload_n 0, 1) := by decide +kernel
theorem dX3_replace_83 : decode cX3_replace 83 = .ok (.dup, 1) := by decide +kernel
theorem dX3_replace_84 : decode cX3_replace 84 = .ok (.getfield 22, 3) := by decide +kernel
theorem dX3_replace_87 : decode cX3_replace 87 = .ok (.aload_n 1, 1) := by decide +kernel
theorem dX3_replace_88 : decode cX3_replace 88 = .ok (.aload_n 2, 1) := by decide +kernel
theorem dX3_replace_89 : decode cX3_replace 89 = .ok (.aload_n 1, 1) := by decide +kernel
theorem dX3_replace_90 : decode cX3_replace 90 = .ok (.getfield 53, 3) := by decide +kernel
theorem dX3_replace_93 : decode cX3_replace 93 = .ok (.invokestatic 39, 3) := by decide +kernel
theorem dX3_replace_96 : decode cX3_replace 96 = .ok (.iadd, 1) := by decide +kernel
theorem dX3_replace_97 : decode cX3_replace 97 = .ok (.putfield 22, 3) := by decide +kernel
theorem dX3_replace_100 : decode cX3_replace 100 = .ok (.aload_n 0, 1) := by decide +kernel
theorem dX3_replace_101 : decode cX3_replace 101 = .ok (.iload_n 3, 1) := by decide +kernel
theorem dX3_replace_102 : decode cX3_replace 102 = .ok (.aload_n 0, 1) := by decide +kernel
theorem dX3_replace_103 : decode cX3_replace 103 = .ok (.getfield 18, 3) := by decide +kernel
theorem dX3_replace_106 : decode cX3_replace 106 = .ok (.iadd, 1) := by decide +kernel
theorem dX3_replace_107 : decode cX3_replace 107 = .ok (.iload 4, 2) := by decide +kernel
theorem dX3_replace_109 : decode cX3_replace 109 = .ok (.isub, 1) := by decide +kernel
theorem dX3_replace_110 : decode cX3_replace 110 = .ok (.putfield 18, 3) := by decide +kernel
theorem dX3_replace_113 : decode cX3_replace 113 = .ok (.aload_n 0, 1) := by decide +kernel
theorem dX3_replace_114 : decode cX3_replace 114 = .ok (.getfield 9, 3) := by decide +kernel
theorem dX3_replace_117 : decode cX3_replace 117 = .ok (.astore 5, 2) := by decide +kernel
theorem dX3_replace_119 : decode cX3_replace 119 = .ok (.aload_n 0, 1) := by decide +kernel
theorem dX3_replace_120 : decode cX3_replace 120 = .ok (.aload_n 0, 1) := by decide +kernel
theorem dX3_replace_121 : decode cX3_replace 121 = .ok (.getfield 15, 3) := by decide +kernel
theorem dX3_replace_124 : decode cX3_replace 124 = .ok (.putfield 9, 3) := by decide +kernel
theorem dX3_replace_127 : decode cX3_replace 127 = .ok (.aload_n 0, 1) := by decide +kernel
theorem dX3_replace_128 : decode cX3_replace 128 = .ok (.aload 5, 2) := by decide +kernel
theorem dX3_replace_130 : decode cX3_replace 130 = .ok (.putfield 15, 3) := by decide +kernel
theorem dX3_replace_133 : decode cX3_replace 133 = .ok (.return_, 1) := by decide +kernel
theorem dX3_replace_34 : decode cX3_replace 34 = .ok (.aload_n 0, 1) := by decide +kernel
theorem dX3_replace_35 : decode cX3_replace 35 = .ok (.aload_n 1, 1) := by decide +kernel
theorem dX3_replace_36 : decode cX3_replace 36 = .ok (.aload_n 2, 1) := by decide +kernel
theorem dX3_replace_37 : decode cX3_replace 37 = .ok (.iload 4, 2) := by decide +kernel
theorem dX3_replace_39 : decode cX3_replace 39 = .ok (.iload_n 3, 1) := by decide +kernel
theorem dX3_replace_40 : decode cX3_replace 40 = .ok (.invokevirtual 49, 3) := by decide +kernel
theorem dX3_replace_43 : decode cX3_replace 43 = .ok (.istore_n 3, 1) := by decide +kernel
theorem dX3_replace_44 : decode cX3_replace 44 = .ok (.iinc 4 1, 3) := by decide +kernel
theorem dX3_replace_47 : decode cX3_replace 47 = .ok (.goto (-22), 3) := by decide +kernel
theorem dX3_replace_25 : decode cX3_replace 25 = .ok (.iload 4, 2) := by decide +kernel
theorem dX3_replace_27 : decode cX3_replace 27 = .ok (.aload_n 1, 1) := by decide +kernel
theorem dX3_replace_28 : decode cX3_replace 28 = .ok (.getfield 36, 3) := by decide +kernel
theorem dX3_replace_31 : decode cX3_replace 31 = .ok (.if_icmp .ge 19, 3) := by decide +kernel
theorem dX3_replace_0 : decode cX3_replace 0 = .ok (.aload_n 0, 1) := by decide +kernel
theorem dX3_replace_1 : decode cX3_replace 1 = .ok (.getfield 9, 3) := by decide +kernel
theorem dX3_replace_4 : decode cX3_replace 4 = .ok (.iconst 0, 1) := by decide +kernel
theorem dX3_replace_5 : decode cX3_replace 5 = .ok (.aload_n 0, 1) := by decide +kernel
theorem dX3_replace_6 : decode cX3_replace 6 = .ok (.getfield 15, 3) := by decide +kernel
theorem dX3_replace_9 : decode cX3_replace 9 = .ok (.iconst 0, 1) := by decide +kernel
theorem dX3_replace_10 : decode cX3_replace 10 = .ok (.aload_n 0, 1) := by decide +kernel
theorem dX3_replace_11 : decode cX3_replace 11 = .ok (.getfield 22, 3) := by decide +kernel
theorem dX3_replace_14 : decode cX3_replace 14 = .ok (.invokestatic 43, 3) := by decide +kernel
theorem dX3_replace_17 : decode cX3_replace 17 = .ok (.aload_n 0, 1) := by decide +kernel
theorem dX3_replace_18 : decode cX3_replace 18 = .ok (.getfield 22, 3) := by decide +kernel
theorem dX3_replace_21 : decode cX3_replace 21 = .ok (.istore_n 3, 1) := by decide +kernel
theorem dX3_replace_22 : decode cX3_replace 22 = .ok (.iconst 0, 1) := by decide +kernel
theorem dX3_replace_23 : decode cX3_replace 23 = .ok (.istore 4, 2) := by decide +kernel
theorem dX4_apply_40 : decode cX4_apply 40 = .ok (.aload_n 0, 1) := by decide +kernel
theorem dX4_apply_41 : decode cX4_apply 41 = .ok (.getfield 30, 3) := by decide +kernel
theorem dX4_apply_44 : decode cX4_apply 44 = .ok (.aload_n 2, 1) := by decide +kernel
theorem dX4_apply_45 : decode cX4_apply 45 = .ok (.aload_n 0, 1) := by decide +kernel
theorem dX4_apply_46 : decode cX4_apply 46 = .ok (.getfield 37, 3) := by decide +kernel
theorem dX4_apply_49 : decode cX4_apply 49 = .ok (.invokevirtual 141, 3) := by decide +kernel
theorem dX4_apply_52 : decode cX4_apply 52 = .ok (.aload_n 0, 1) := by decide +kernel
theorem dX4_apply_53 : decode cX4_apply 53 = .ok (.dup, 1) := by decide +kernel
theorem dX4_apply_54 : decode cX4_apply 54 = .ok (.getfield 41, 3) := by decide +kernel
theorem dX4_apply_57 : decode cX4_apply 57 = .ok (.iconst 1, 1) := by decide +kernel
theorem dX4_apply_58 : decode cX4_apply 58 = .ok (.iadd, 1) := by decide +kernel
theorem dX4_apply_59 : decode cX4_apply 59 = .ok (.putfield 41, 3) := by decide +kernel
theorem dX4_apply_62 : decode cX4_apply 62 = .ok (.aload_n 0, 1) := by decide +kernel
theorem dX4_apply_63 : decode cX4_apply 63 = .ok (.iload_n 1, 1) := by decide +kernel
theorem dX4_apply_64 : decode cX4_apply 64 = .ok (.putfield 44, 3) := by decide +kernel
theorem dX4_apply_67 : decode cX4_apply 67 = .ok (.iconst 1, 1) := by decide +kernel
theorem dX4_apply_68 : decode cX4_apply 68 = .ok (.ireturn, 1) := by decide +kernel
theorem dX4_apply_33 : decode cX4_apply 33 = .ok (.aload_n 0, 1) := by decide +kernel
theorem dX4_apply_34 : decode cX4_apply 34 = .ok (.iconst 1, 1) := by decide +kernel
theorem dX4_apply_35 : decode cX4_apply 35 = .ok (.putfield 47, 3) := by decide +kernel
theorem dX4_apply_38 : decode cX4_apply 38 = .ok (.iconst 0, 1) := by decide +kernel
theorem dX4_apply_39 : decode cX4_apply 39 = .ok (.ireturn, 1) := by decide +kernel
theorem dX4_apply_16 : decode cX4_apply 16 = .ok (.aload_n 0, 1) := by decide +kernel
theorem dX4_apply_17 : decode cX4_apply 17 = .ok (.getfield 30, 3) := by decide +kernel
theorem dX4_apply_20 : decode cX4_apply 20 = .ok (.aload_n 2, 1) := by decide +kernel
theorem dX4_apply_21 : decode cX4_apply 21 = .ok (.aload_n 0, 1) := by decide +kernel
theorem dX4_apply_22 : decode cX4_apply 22 = .ok (.getfield 37, 3) := by decide +kernel
theorem dX4_apply_25 : decode cX4_apply 25 = .ok (.invokevirtual 137, 3) := by decide +kernel
theorem dX4_apply_28 : decode cX4_apply 28 = .ok (.bipush 60, 2) := by decide +kernel
theorem dX4_apply_30 : decode cX4_apply 30 = .ok (.if_icmp .le 10, 3) := by decide +kernel
theorem dX4_apply_0 : decode cX4_apply 0 = .ok (.aload_n 0, 1) := by decide +kernel
theorem dX4_apply_1 : decode cX4_apply 1 = .ok (.getfield 18, 3) := by decide +kernel
theorem dX4_apply_4 : decode cX4_apply 4 = .ok (.iload_n 1, 1) := by decide +kernel
theorem dX4_apply_5 : decode cX4_apply 5 = .ok (.aaload, 1) := by decide +kernel
theorem dX4_apply_6 : decode cX4_apply 6 = .ok (.astore_n 2, 1) := by decide +kernel
theorem dX4_apply_7 : decode cX4_apply 7 = .ok (.aload_n 0, 1) := by decide +kernel
theorem dX4_apply_8 : decode cX4_apply 8 = .ok (.getfield 41, 3) := by decide +kernel
theorem dX4_apply_11 : decode cX4_apply 11 = .ok (.bipush 100, 2) := by decide +kernel
theorem dX4_apply_13 : decode cX4_apply 13 = .ok (.if_icmp .ge 20, 3) := by decide +kernel
theorem dX4_doAtCursor_53 : decode cX4_doAtCursor 53 = .ok (.aload_n 0, 1) := by decide +kernel
theorem dX4_doAtCursor_54 : decode cX4_doAtCursor 54 = .ok (.getfield 30, 3) := by decide +kernel
theorem dX4_doAtCursor_57 : decode cX4_doAtCursor 57 = .ok (.dup, 1) := by decide +kernel
theorem dX4_doAtCursor_58 : decode cX4_doAtCursor 58 = .ok (.getfield 93, 3) := by decide +kernel
theorem dX4_doAtCursor_61 : decode cX4_doAtCursor 61 = .ok (.iconst 1, 1) := by decide +kernel
theorem dX4_doAtCursor_62 : decode cX4_doAtCursor 62 = .ok (.iadd, 1) := by decide +kernel
theorem dX4_doAtCursor_63 : decode cX4_doAtCursor 63 = .ok (.putfield 93, 3) := by decide +kernel
theorem dX4_doAtCursor_66 : decode cX4_doAtCursor 66 = .ok (.iconst 1, 1) := by decide +kernel
theorem dX4_doAtCursor_67 : decode cX4_doAtCursor 67 = .ok (.ireturn, 1) := by decide +kernel
theorem dX4_doAtCursor_47 : decode cX4_doAtCursor 47 = .ok (.iinc 2 1, 3) := by decide +kernel
theorem dX4_doAtCursor_50 : decode cX4_doAtCursor 50 = .ok (.goto (-48), 3) := by decide +kernel
theorem dX4_doAtCursor_41 : decode cX4_doAtCursor 41 = .ok (.aload_n 0, 1) := by decide +kernel
theorem dX4_doAtCursor_42 : decode cX4_doAtCursor 42 = .ok (.iload_n 2, 1) := by decide +kernel
theorem dX4_doAtCursor_43 : decode cX4_doAtCursor 43 = .ok (.invokevirtual 133, 3) := by decide +kernel
theorem dX4_doAtCursor_46 : decode cX4_doAtCursor 46 = .ok (.ireturn, 1) := by decide +kernel
theorem dX4_doAtCursor_36 : decode cX4_doAtCursor 36 = .ok (.iload_n 3, 1) := by decide +kernel
theorem dX4_doAtCursor_37 : decode cX4_doAtCursor 37 = .ok (.iconst 1, 1) := by decide +kernel
theorem dX4_doAtCursor_38 : decode cX4_doAtCursor 38 = .ok (.if_icmp .ne 9, 3) := by decide +kernel
theorem dX4_doAtCursor_34 : decode cX4_doAtCursor 34 = .ok (.iconst 0, 1) := by decide +kernel
theorem dX4_doAtCursor_35 : decode cX4_doAtCursor 35 = .ok (.ireturn, 1) := by decide +kernel
theorem dX4_doAtCursor_10 : decode cX4_doAtCursor 10 = .ok (.aload_n 0, 1) := by decide +kernel
theorem dX4_doAtCursor_11 : decode cX4_doAtCursor 11 = .ok (.getfield 37, 3) := by decide +kernel
theorem dX4_doAtCursor_14 : decode cX4_doAtCursor 14 = .ok (.aload_n 0, 1) := by decide +kernel
theorem dX4_doAtCursor_15 : decode cX4_doAtCursor 15 = .ok (.getfield 18, 3) := by decide +kernel
theorem dX4_doAtCursor_18 : decode cX4_doAtCursor 18 = .ok (.iload_n 2, 1) := by decide +kernel
theorem dX4_doAtCursor_19 : decode cX4_doAtCursor 19 = .ok (.aaload, 1) := by decide +kernel
theorem dX4_doAtCursor_20 : decode cX4_doAtCursor 20 = .ok (.aload_n 0, 1) := by decide +kernel
theorem dX4_doAtCursor_21 : decode cX4_doAtCursor 21 = .ok (.getfield 30, 3) := by decide +kernel
theorem dX4_doAtCursor_24 : decode cX4_doAtCursor 24 = .ok (.iload_n 1, 1) := by decide +kernel
theorem dX4_doAtCursor_25 : decode cX4_doAtCursor 25 = .ok (.invokevirtual 96, 3) := by decide +kernel
theorem dX4_doAtCursor_28 : decode cX4_doAtCursor 28 = .ok (.istore_n 3, 1) := by decide +kernel
theorem dX4_doAtCursor_29 : decode cX4_doAtCursor 29 = .ok (.iload_n 3, 1) := by decide +kernel
theorem dX4_doAtCursor_30 : decode cX4_doAtCursor 30 = .ok (.iconst 2, 1) := by decide +kernel
theorem dX4_doAtCursor_31 : decode cX4_doAtCursor 31 = .ok (.if_icmp .ne 5, 3) := by decide +kernel
theorem dX4_doAtCursor_2 : decode cX4_doAtCursor 2 = .ok (.iload_n 2, 1) := by decide +kernel
theorem dX4_doAtCursor_3 : decode cX4_doAtCursor 3 = .ok (.aload_n 0, 1) := by decide +kernel
theorem dX4_doAtCursor_4 : decode cX4_doAtCursor 4 = .ok (.getfield 23, 3) := by decide +kernel
theorem dX4_doAtCursor_7 : decode cX4_doAtCursor 7 = .ok (.if_icmp .ge 46, 3) := by decide +kernel
theorem dX4_doAtCursor_0 : decode cX4_doAtCursor 0 = .ok (.iconst 0, 1) := by decide +kernel
theorem dX4_doAtCursor_1 : decode cX4_doAtCursor 1 = .ok (.istore_n 2, 1) := by decide +kernel
theorem dX4_rewrite_62 : decode cX4_rewrite 62 = .ok (.aload_n 0, 1) := by decide +kernel
theorem dX4_rewrite_63 : decode cX4_rewrite 63 = .ok (.getfield 41, 3) := by decide +kernel
theorem dX4_rewrite_66 : decode cX4_rewrite 66 = .ok (.iload_n 2, 1) := by decide +kernel
theorem dX4_rewrite_67 : decode cX4_rewrite 67 = .ok (.isub, 1) := by decide +kernel
theorem dX4_rewrite_68 : decode cX4_rewrite 68 = .ok (.ireturn, 1) := by decide +kernel
theorem dX4_rewrite_50 : decode cX4_rewrite 50 = .ok (.aload_n 0, 1) := by decide +kernel
theorem dX4_rewrite_51 : decode cX4_rewrite 51 = .ok (.iload_n 1, 1) := by decide +kernel
theorem dX4_rewrite_52 : decode cX4_rewrite 52 = .ok (.invokevirtual 129, 3) := by decide +kernel
theorem dX4_rewrite_55 : decode cX4_rewrite 55 = .ok (.istore_n 3, 1) := by decide +kernel
theorem dX4_rewrite_56 : decode cX4_rewrite 56 = .ok (.iinc 4 1, 3) := by decide +kernel
theorem dX4_rewrite_59 : decode cX4_rewrite 59 = .ok (.goto (-38), 3) := by decide +kernel
theorem dX4_rewrite_33 : decode cX4_rewrite 33 = .ok (.aload_n 0, 1) := by decide +kernel
theorem dX4_rewrite_34 : decode cX4_rewrite 34 = .ok (.getfield 30, 3) := by decide +kernel
theorem dX4_rewrite_37 : decode cX4_rewrite 37 = .ok (.getfield 93, 3) := by decide +kernel
theorem dX4_rewrite_40 : decode cX4_rewrite 40 = .ok (.aload_n 0, 1) := by decide +kernel
theorem dX4_rewrite_41 : decode cX4_rewrite 41 = .ok (.getfield 30, 3) := by decide +kernel
theorem dX4_rewrite_44 : decode cX4_rewrite 44 = .ok (.getfield 86, 3) := by decide +kernel
theorem dX4_rewrite_47 : decode cX4_rewrite 47 = .ok (.if_icmp .ge 15, 3) := by decide +kernel
theorem dX4_rewrite_29 : decode cX4_rewrite 29 = .ok (.iload_n 3, 1) := by decide +kernel
theorem dX4_rewrite_30 : decode cX4_rewrite 30 = .ok (.ifCond .eq 32, 3) := by decide +kernel
theorem dX4_rewrite_21 : decode cX4_rewrite 21 = .ok (.iload 4, 2) := by decide +kernel
theorem dX4_rewrite_23 : decode cX4_rewrite 23 = .ok (.sipush 161, 3) := by decide +kernel
theorem dX4_rewrite_26 : decode cX4_rewrite 26 = .ok (.if_icmp .ge 36, 3) := by decide +kernel
theorem dX4_rewrite_17 : decode cX4_rewrite 17 = .ok (.istore_n 3, 1) := by decide +kernel
theorem dX4_rewrite_18 : decode cX4_rewrite 18 = .ok (.iconst 0, 1) := by decide +kernel
theorem dX4_rewrite_19 : decode cX4_rewrite 19 = .ok (.istore 4, 2) := by decide +kernel
theorem dX4_rewrite_16 : decode cX4_rewrite 16 = .ok (.iconst 0, 1) := by decide +kernel
theorem dX4_rewrite_12 : decode cX4_rewrite 12 = .ok (.iconst 1, 1) := by decide +kernel
theorem dX4_rewrite_13 : decode cX4_rewrite 13 = .ok (.goto 4, 3) := by decide +kernel
theorem dX4_rewrite_0 : decode cX4_rewrite 0 = .ok (.aload_n 0, 1) := by decide +kernel
theorem dX4_rewrite_1 : decode cX4_rewrite 1 = .ok (.getfield 41, 3) := by decide +kernel
theorem dX4_rewrite_4 : decode cX4_rewrite 4 = .ok (.istore_n 2, 1) := by decide +kernel
theorem dX4_rewrite_5 : decode cX4_rewrite 5 = .ok (.aload_n 0, 1) := by decide +kernel
theorem dX4_rewrite_6 : decode cX4_rewrite 6 = .ok (.getfield 47, 3) := by decide +kernel
theorem dX4_rewrite_9 : decode cX4_rewrite 9 = .ok (.ifCond .ne 7, 3) := by decide +kernel
theorem dX4_settle_0 : decode cX4_settle 0 = .ok (.aload_n 0, 1) := by decide +kernel
theorem dX4_settle_1 : decode cX4_settle 1 = .ok (.iconst 0, 1) := by decide +kernel
theorem dX4_settle_2 : decode cX4_settle 2 = .ok (.invokevirtual 82, 3) := by decide +kernel
theorem dX4_settle_5 : decode cX4_settle 5 = .ok (.ireturn, 1) := by decide +kernel
theorem dX4_finish_0 : decode cX4_finish 0 = .ok (.aload_n 0, 1) := by decide +kernel
theorem dX4_finish_1 : decode cX4_finish 1 = .ok (.iconst 1, 1) := by decide +kernel
theorem dX4_finish_2 : decode cX4_finish 2 = .ok (.invokevirtual 82, 3) := by decide +kernel
theorem dX4_finish_5 : decode cX4_finish 5 = .ok (.ireturn, 1) := by decide +kernel
theorem dX4_length_0 : decode cX4_length 0 = .ok (.aload_n 0, 1) := by decide +kernel
theorem dX4_length_1 : decode cX4_length 1 = .ok (.getfield 30, 3) := by decide +kernel
theorem dX4_length_4 : decode cX4_length 4 = .ok (.getfield 86, 3) := by decide +kernel
theorem dX4_length_7 : decode cX4_length 7 = .ok (.ireturn, 1) := by decide +kernel
theorem dX4_letter_28 : decode cX4_letter 28 = .ok (.ireturn, 1) := by decide +kernel
theorem dX4_letter_27 : decode cX4_letter 27 = .ok (.iconst 0, 1) := by decide +kernel
theorem dX4_letter_15 : decode cX4_letter 15 = .ok (.aload_n 0, 1) := by decide +kernel
theorem dX4_letter_16 : decode cX4_letter 16 = .ok (.getfield 30, 3) := by decide +kernel
theorem dX4_letter_19 : decode cX4_letter 19 = .ok (.getfield 89, 3) := by decide +kernel
theorem dX4_letter_22 : decode cX4_letter 22 = .ok (.iload_n 1, 1) := by decide +kernel
theorem dX4_letter_23 : decode cX4_letter 23 = .ok (.caload, 1) := by decide +kernel
theorem dX4_letter_24 : decode cX4_letter 24 = .ok (.goto 4, 3) := by decide +kernel
theorem dX4_letter_4 : decode cX4_letter 4 = .ok (.iload_n 1, 1) := by decide +kernel
theorem dX4_letter_5 : decode cX4_letter 5 = .ok (.aload_n 0, 1) := by decide +kernel
theorem dX4_letter_6 : decode cX4_letter 6 = .ok (.getfield 30, 3) := by decide +kernel
theorem dX4_letter_9 : decode cX4_letter 9 = .ok (.getfield 86, 3) := by decide +kernel
theorem dX4_letter_12 : decode cX4_letter 12 = .ok (.if_icmp .ge 15, 3) := by decide +kernel
theorem dX4_letter_0 : decode cX4_letter 0 = .ok (.iload_n 1, 1) := by decide +kernel
theorem dX4_letter_1 : decode cX4_letter 1 = .ok (.ifCond .lt 26, 3) := by decide +kernel
theorem dX4_cursor_0 : decode cX4_cursor 0 = .ok (.aload_n 0, 1) := by decide +kernel
theorem dX4_cursor_1 : decode cX4_cursor 1 = .ok (.getfield 30, 3) := by decide +kernel
theorem dX4_cursor_4 : decode cX4_cursor 4 = .ok (.getfield 93, 3) := by decide +kernel
theorem dX4_cursor_7 : decode cX4_cursor 7 = .ok (.ireturn, 1) := by decide +kernel
theorem dX4_applied_0 : decode cX4_applied 0 = .ok (.aload_n 0, 1) := by decide +kernel
theorem dX4_applied_1 : decode cX4_applied 1 = .ok (.getfield 41, 3) := by decide +kernel
theorem dX4_applied_4 : decode cX4_applied 4 = .ok (.ireturn, 1) := by decide +kernel
theorem dX4_latest_0 : decode cX4_latest 0 = .ok (.aload_n 0, 1) := by decide +kernel
theorem dX4_latest_1 : decode cX4_latest 1 = .ok (.getfield 44, 3) := by decide +kernel
theorem dX4_latest_4 : decode cX4_latest 4 = .ok (.ireturn, 1) := by decide +kernel
theorem dX4_stuck_0 : decode cX4_stuck 0 = .ok (.aload_n 0, 1) := by decide +kernel
theorem dX4_stuck_1 : decode cX4_stuck 1 = .ok (.getfield 47, 3) := by decide +kernel
theorem dX4_stuck_4 : decode cX4_stuck 4 = .ok (.ireturn, 1) := by decide +kernel
theorem dX4_probe_14 : decode cX4_probe 14 = .ok (.aload_n 0, 1) := by decide +kernel
theorem dX4_probe_15 : decode cX4_probe 15 = .ok (.getfield 37, 3) := by decide +kernel
theorem dX4_probe_18 : decode cX4_probe 18 = .ok (.aload_n 0, 1) := by decide +kernel
theorem dX4_probe_19 : decode cX4_probe 19 = .ok (.getfield 18, 3) := by decide +kernel
theorem dX4_probe_22 : decode cX4_probe 22 = .ok (.iload_n 1, 1) := by decide +kernel
theorem dX4_probe_23 : decode cX4_probe 23 = .ok (.aaload, 1) := by decide +kernel
theorem dX4_probe_24 : decode cX4_probe 24 = .ok (.aload_n 0, 1) := by decide +kernel
theorem dX4_probe_25 : decode cX4_probe 25 = .ok (.getfield 30, 3) := by decide +kernel
theorem dX4_probe_28 : decode cX4_probe 28 = .ok (.iload_n 2, 1) := by decide +kernel
theorem dX4_probe_29 : decode cX4_probe 29 = .ok (.invokevirtual 96, 3) := by decide +kernel
theorem dX4_probe_32 : decode cX4_probe 32 = .ok (.ireturn, 1) := by decide +kernel
theorem dX4_probe_12 : decode cX4_probe 12 = .ok (.iconst (-1), 1) := by decide +kernel
theorem dX4_probe_13 : decode cX4_probe 13 = .ok (.ireturn, 1) := by decide +kernel
theorem dX4_probe_4 : decode cX4_probe 4 = .ok (.iload_n 1, 1) := by decide +kernel
theorem dX4_probe_5 : decode cX4_probe 5 = .ok (.aload_n 0, 1) := by decide +kernel
theorem dX4_probe_6 : decode cX4_probe 6 = .ok (.getfield 23, 3) := by decide +kernel
theorem dX4_probe_9 : decode cX4_probe 9 = .ok (.if_icmp .lt 5, 3) := by decide +kernel
theorem dX4_probe_0 : decode cX4_probe 0 = .ok (.iload_n 1, 1) := by decide +kernel
theorem dX4_probe_1 : decode cX4_probe 1 = .ok (.ifCond .lt 11, 3) := by decide +kernel
-- X3_putPiece
def wX3_putPiece : List Cond := Cond.code yX3_putPiece cX3_putPiece 7 (some .int) :: kv_tb
abbrev SX3_putPiece (pc : Nat) (F : kv_D) : Prop := kv_S cX3_putPiece 7 RX3 wX3_putPiece (some .int) false 1 26 none pc F
def fX3_putPiece_30 : kv_D := o_aload 2 (o_aload 1 (o_iload 5 (o_callV 0 2 mX0_segmentWidth (o_istore 6 (o_aload 0 (o_getf 3 0 (o_aload 2 (o_aload 1 (o_iload 5 (o_callV 0 2 mX0_segmentBegin (o_aload 0 (o_getf 3 1 (o_iload 4 (o_iload 6 (o_copy 1 .char (o_iload 4 (o_iload 6 (o_iadd (o_iret .int)))))))))))))))))))
theorem sX3_putPiece_30 : SX3_putPiece 30 (fX3_putPiece_30) := k_aload_n dX3_putPiece_30 rfl (k_aload_n dX3_putPiece_31 rfl (k_iload dX3_putPiece_32 (k_callV (q := (RX0, TX0, 1)) dX3_putPiece_34 cX0_segmentWidth_ct rfl (kv_goodV mw_362 mw_363 mw_364 mw_5 mw_365) (by decide +kernel) rfl (by decide) (by decide) (k_istore dX3_putPiece_37 (by decide) (k_aload_n dX3_putPiece_39 rfl (k_getf (C := RX3) (T := TX3) (N := 4) (ci := 3) (index := 9) (kf := 0) dX3_putPiece_40 rfl (fun w h => List.mem_cons_of_mem _ (inX3 w h)) (by decide) (List.mem_cons_of_mem _ mw_124) (k_aload_n dX3_putPiece_43 rfl (k_aload_n dX3_putPiece_44 rfl (k_iload dX3_putPiece_45 (k_callV (q := (RX0, TX0, 1)) dX3_putPiece_47 cX0_segmentBegin_ct rfl (kv_goodV mw_377 mw_378 mw_379 mw_5 mw_380) (by decide +kernel) rfl (by decide) (by decide) (k_aload_n dX3_putPiece_50 rfl (k_getf (C := RX3) (T := TX3) (N := 4) (ci := 3) (index := 15) (kf := 1) dX3_putPiece_51 rfl (fun w h => List.mem_cons_of_mem _ (inX3 w h)) (by decide) (List.mem_cons_of_mem _ mw_126) (k_iload dX3_putPiece_54 (k_iload dX3_putPiece_56 (k_copy dX3_putPiece_58 rfl rfl (List.mem_cons_of_mem _ mw_370) (List.mem_cons_of_mem _ mw_372) (List.mem_cons_of_mem _ mw_371) (List.mem_cons_of_mem _ mw_8) (by decide) (by decide) (k_iload dX3_putPiece_61 (k_iload dX3_putPiece_63 (k_iadd dX3_putPiece_65 (k_iret dX3_putPiece_66 rfl)))))))))))))))))))
def fX3_putPiece_16 : kv_D := o_aload 0 (o_getf 3 1 (o_iload 4 (o_iload 5 (o_iast 1 (vp_nar .char) (o_iload 4 (o_const 1 (o_iadd (o_iret .int))))))))
theorem sX3_putPiece_16 : SX3_putPiece 16 (fX3_putPiece_16) := k_aload_n dX3_putPiece_16 rfl (k_getf (C := RX3) (T := TX3) (N := 4) (ci := 3) (index := 15) (kf := 1) dX3_putPiece_17 rfl (fun w h => List.mem_cons_of_mem _ (inX3 w h)) (by decide) (List.mem_cons_of_mem _ mw_126) (k_iload dX3_putPiece_20 (k_iload dX3_putPiece_22 (k_cast dX3_putPiece_24 rfl (k_iload dX3_putPiece_25 (k_iconst dX3_putPiece_27 (by decide +kernel) (k_iadd dX3_putPiece_28 (k_iret dX3_putPiece_29 rfl))))))))
def fX3_putPiece_0 : kv_D := o_aload 1 (o_getf 1 10 (o_iload 3 (o_iald 1 (o_istore 5 (o_iload 5 (o_callS 1 mX4_isSmall (o_ifeq (fX3_putPiece_30) (fX3_putPiece_16))))))))
theorem sX3_putPiece_0 : SX3_putPiece 0 (fX3_putPiece_0) := k_aload_n dX3_putPiece_0 rfl (k_getN (C := RX1) (T := TX1) (N := 14) (ci := 1) (index := 56) (kf := 10) dX3_putPiece_1 rfl (fun w h => List.mem_cons_of_mem _ (inX1 w h)) (by decide) mw_80 (k_iload_n dX3_putPiece_4 rfl (k_cald dX3_putPiece_5 rfl (k_istore dX3_putPiece_6 (by decide) (k_iload dX3_putPiece_8 (k_callSN dX3_putPiece_10 cX4_isSmall_ct rfl (kv_goodC mw_207) mw_361 (List.mem_cons_of_mem _ mw_1) (List.mem_cons_of_mem _ mw_206) (by decide +kernel) (by decide) (by decide) (k_ifeq dX3_putPiece_13 rfl (sX3_putPiece_30) (sX3_putPiece_16))))))))
def mX3_putPiece : kv_M := kv_in 5 7 (fX3_putPiece_0)
theorem cX3_putPiece_ct : kv_CT yX3_putPiece wX3_putPiece 1 26 mX3_putPiece := kv_met (by decide) rfl rfl (by decide) (fun h => by cases h) (sX3_putPiece_0)
-- X3_replace
def wX3_replace : List Cond := Cond.code yX3_replace cX3_replace 6 none :: kv_tb
abbrev SX3_replace (pc : Nat) (F : kv_D) : Prop := kv_S cX3_replace 6 RX3 wX3_replace none false 2 52 none pc F
def fX3_replace_50 (K : Nat → kv_D) : kv_D := o_aload 2 (o_getf 0 0 (o_aload 1 (o_getf 1 5 (o_iald 0 (o_istore 4 (o_aload 0 (o_getf 3 0 (o_iload 4 (o_aload 0 (o_getf 3 1 (o_iload 3 (o_aload 0 (o_getf 3 2 (o_iload 4 (o_isub (o_copy 1 .char (o_aload 0 (o_dup (o_getf 3 3 (o_aload 1 (o_aload 2 (o_aload 1 (o_getf 1 13 (o_callS 3 mX3_widthOf (o_iadd (o_putf 3 3 .int (o_aload 0 (o_iload 3 (o_aload 0 (o_getf 3 2 (o_iadd (o_iload 4 (o_isub (o_putf 3 2 .int (o_aload 0 (o_getf 3 0 (o_astore 5 (o_aload 0 (o_aload 0 (o_getf 3 1 (o_putf 3 0 (.array .char) (o_aload 0 (o_aload 5 (o_putf 3 1 (.array .char) (o_ret)))))))))))))))))))))))))))))))))))))))))))))
theorem sX3_replace_50 {K : Nat → kv_D} (hK : ∀ pc, SX3_replace pc (K pc)) : SX3_replace 50 (fX3_replace_50 K) := k_aload_n dX3_replace_50 rfl (k_getN (C := RX0) (T := TX0) (N := 1) (ci := 0) (index := 25) (kf := 0) dX3_replace_51 rfl (fun w h => List.mem_cons_of_mem _ (inX0 w h)) (by decide) mw_149 (k_aload_n dX3_replace_54 rfl (k_getN (C := RX1) (T := TX1) (N := 14) (ci := 1) (index := 31) (kf := 5) dX3_replace_55 rfl (fun w h => List.mem_cons_of_mem _ (inX1 w h)) (by decide) mw_70 (k_iald dX3_replace_58 rfl (k_istore dX3_replace_59 (by decide) (k_aload_n dX3_replace_61 rfl (k_getf (C := RX3) (T := TX3) (N := 4) (ci := 3) (index := 9) (kf := 0) dX3_replace_62 rfl (fun w h => List.mem_cons_of_mem _ (inX3 w h)) (by decide) (List.mem_cons_of_mem _ mw_124) (k_iload dX3_replace_65 (k_aload_n dX3_replace_67 rfl (k_getf (C := RX3) (T := TX3) (N := 4) (ci := 3) (index := 15) (kf := 1) dX3_replace_68 rfl (fun w h => List.mem_cons_of_mem _ (inX3 w h)) (by decide) (List.mem_cons_of_mem _ mw_126) (k_iload_n dX3_replace_71 rfl (k_aload_n dX3_replace_72 rfl (k_getf (C := RX3) (T := TX3) (N := 4) (ci := 3) (index := 18) (kf := 2) dX3_replace_73 rfl (fun w h => List.mem_cons_of_mem _ (inX3 w h)) (by decide) (List.mem_cons_of_mem _ mw_127) (k_iload dX3_replace_76 (k_isub dX3_replace_78 (k_copy dX3_replace_79 rfl rfl (List.mem_cons_of_mem _ mw_370) (List.mem_cons_of_mem _ mw_372) (List.mem_cons_of_mem _ mw_371) (List.mem_cons_of_mem _ mw_8) (by decide) (by decide) (k_aload_n dX3_replace_82 rfl (k_dup dX3_replace_83 (k_getf (C := RX3) (T := TX3) (N := 4) (ci := 3) (index := 22) (kf := 3) dX3_replace_84 rfl (fun w h => List.mem_cons_of_mem _ (inX3 w h)) (by decide) (List.mem_cons_of_mem _ mw_130) (k_aload_n dX3_replace_87 rfl (k_aload_n dX3_replace_88 rfl (k_aload_n dX3_replace_89 rfl (k_getN (C := RX1) (T := TX1) (N := 14) (ci := 1) (index := 53) (kf := 13) dX3_replace_90 rfl (fun w h => List.mem_cons_of_mem _ (inX1 w h)) (by decide) mw_87 (k_callS dX3_replace_93 cX3_widthOf_ct rfl (kv_goodS mw_358 mw_359 mw_4 mw_360) (by decide +kernel) (by decide) (by decide) (k_iadd dX3_replace_96 (k_putf (C := RX3) (T := TX3) (N := 4) (ci := 3) (index := 22) (kf := 3) (ty := .int) dX3_replace_97 rfl (fun w h => List.mem_cons_of_mem _ (inX3 w h)) tyX3 tyX3_ok nmX3 (by decide) (List.mem_cons_of_mem _ mw_130) rfl rfl (k_aload_n dX3_replace_100 rfl (k_iload_n dX3_replace_101 rfl (k_aload_n dX3_replace_102 rfl (k_getf (C := RX3) (T := TX3) (N := 4) (ci := 3) (index := 18) (kf := 2) dX3_replace_103 rfl (fun w h => List.mem_cons_of_mem _ (inX3 w h)) (by decide) (List.mem_cons_of_mem _ mw_127) (k_iadd dX3_replace_106 (k_iload dX3_replace_107 (k_isub dX3_replace_109 (k_putf (C := RX3) (T := TX3) (N := 4) (ci := 3) (index := 18) (kf := 2) (ty := .int) dX3_replace_110 rfl (fun w h => List.mem_cons_of_mem _ (inX3 w h)) tyX3 tyX3_ok nmX3 (by decide) (List.mem_cons_of_mem _ mw_127) rfl rfl (k_aload_n dX3_replace_113 rfl (k_getf (C := RX3) (T := TX3) (N := 4) (ci := 3) (index := 9) (kf := 0) dX3_replace_114 rfl (fun w h => List.mem_cons_of_mem _ (inX3 w h)) (by decide) (List.mem_cons_of_mem _ mw_124) (k_astore dX3_replace_117 (by decide) (k_aload_n dX3_replace_119 rfl (k_aload_n dX3_replace_120 rfl (k_getf (C := RX3) (T := TX3) (N := 4) (ci := 3) (index := 15) (kf := 1) dX3_replace_121 rfl (fun w h => List.mem_cons_of_mem _ (inX3 w h)) (by decide) (List.mem_cons_of_mem _ mw_126) (k_putf (C := RX3) (T := TX3) (N := 4) (ci := 3) (index := 9) (kf := 0) (ty := (.array .char)) dX3_replace_124 rfl (fun w h => List.mem_cons_of_mem _ (inX3 w h)) tyX3 tyX3_ok nmX3 (by decide) (List.mem_cons_of_mem _ mw_124) rfl rfl (k_aload_n dX3_replace_127 rfl (k_aload dX3_replace_128 (k_putf (C := RX3) (T := TX3) (N := 4) (ci := 3) (index := 15) (kf := 1) (ty := (.array .char)) dX3_replace_130 rfl (fun w h => List.mem_cons_of_mem _ (inX3 w h)) tyX3 tyX3_ok nmX3 (by decide) (List.mem_cons_of_mem _ mw_126) rfl rfl (k_ret dX3_replace_133 rfl)))))))))))))))))))))))))))))))))))))))))))))
theorem nX3_replace_50 : kv_cn (fun K => fX3_replace_50 K) := cn_aload 2 (cn_getf 0 0 (cn_aload 1 (cn_getf 1 5 (cn_iald 0 (cn_istore 4 (cn_aload 0 (cn_getf 3 0 (cn_iload 4 (cn_aload 0 (cn_getf 3 1 (cn_iload 3 (cn_aload 0 (cn_getf 3 2 (cn_iload 4 (cn_isub (cn_copy 1 .char (cn_aload 0 (cn_dup (cn_getf 3 3 (cn_aload 1 (cn_aload 2 (cn_aload 1 (cn_getf 1 13 (cn_callS 3 mX3_widthOf (cn_iadd (cn_putf 3 3 .int (cn_aload 0 (cn_iload 3 (cn_aload 0 (cn_getf 3 2 (cn_iadd (cn_iload 4 (cn_isub (cn_putf 3 2 .int (cn_aload 0 (cn_getf 3 0 (cn_astore 5 (cn_aload 0 (cn_aload 0 (cn_getf 3 1 (cn_putf 3 0 (.array .char) (cn_aload 0 (cn_aload 5 (cn_putf 3 1 (.array .char) (cn_c _)))))))))))))))))))))))))))))))))))))))))))))
def fX3_replace_34 (K : Nat → kv_D) : kv_D := o_aload 0 (o_aload 1 (o_aload 2 (o_iload 4 (o_iload 3 (o_callV 3 4 mX3_putPiece (o_istore 3 (o_iinc 4 1 ((K 25)))))))))
theorem sX3_replace_34 {K : Nat → kv_D} (hK : ∀ pc, SX3_replace pc (K pc)) : SX3_replace 34 (fX3_replace_34 K) := k_aload_n dX3_replace_34 rfl (k_aload_n dX3_replace_35 rfl (k_aload_n dX3_replace_36 rfl (k_iload dX3_replace_37 (k_iload_n dX3_replace_39 rfl (k_callV (q := (RX3, TX3, 4)) dX3_replace_40 cX3_putPiece_ct rfl (kv_goodV mw_373 mw_375 sel_X3_putPiece mw_4 mw_376) (by decide +kernel) rfl (by decide) (by decide) (k_istore_n dX3_replace_43 rfl (by decide) (k_iinc dX3_replace_44 (by decide +kernel) (by decide) (k_goto dX3_replace_47 rfl (hK 25)))))))))
theorem nX3_replace_34 : kv_cn (fun K => fX3_replace_34 K) := cn_aload 0 (cn_aload 1 (cn_aload 2 (cn_iload 4 (cn_iload 3 (cn_callV 3 4 mX3_putPiece (cn_istore 3 (cn_iinc 4 1 ((cn_K 25)))))))))
def fX3_replace_25 (K : Nat → kv_D) : kv_D := o_iload 4 (o_aload 1 (o_getf 1 11 (o_icge (fX3_replace_50 K) (fX3_replace_34 K))))
theorem sX3_replace_25 {K : Nat → kv_D} (hK : ∀ pc, SX3_replace pc (K pc)) : SX3_replace 25 (fX3_replace_25 K) := k_iload dX3_replace_25 (k_aload_n dX3_replace_27 rfl (k_getN (C := RX1) (T := TX1) (N := 14) (ci := 1) (index := 36) (kf := 11) dX3_replace_28 rfl (fun w h => List.mem_cons_of_mem _ (inX1 w h)) (by decide) mw_82 (k_icge dX3_replace_31 rfl (sX3_replace_50 hK) (sX3_replace_34 hK))))
theorem nX3_replace_25 : kv_cn (fun K => fX3_replace_25 K) := cn_iload 4 (cn_aload 1 (cn_getf 1 11 (cn_icge nX3_replace_50 nX3_replace_34)))
def fX3_replace_0 (K : Nat → kv_D) : kv_D := o_aload 0 (o_getf 3 0 (o_const 0 (o_aload 0 (o_getf 3 1 (o_const 0 (o_aload 0 (o_getf 3 3 (o_copy 1 .char (o_aload 0 (o_getf 3 3 (o_istore 3 (o_const 0 (o_istore 4 ((K 25)))))))))))))))
theorem sX3_replace_0 {K : Nat → kv_D} (hK : ∀ pc, SX3_replace pc (K pc)) : SX3_replace 0 (fX3_replace_0 K) := k_aload_n dX3_replace_0 rfl (k_getf (C := RX3) (T := TX3) (N := 4) (ci := 3) (index := 9) (kf := 0) dX3_replace_1 rfl (fun w h => List.mem_cons_of_mem _ (inX3 w h)) (by decide) (List.mem_cons_of_mem _ mw_124) (k_iconst dX3_replace_4 (by decide +kernel) (k_aload_n dX3_replace_5 rfl (k_getf (C := RX3) (T := TX3) (N := 4) (ci := 3) (index := 15) (kf := 1) dX3_replace_6 rfl (fun w h => List.mem_cons_of_mem _ (inX3 w h)) (by decide) (List.mem_cons_of_mem _ mw_126) (k_iconst dX3_replace_9 (by decide +kernel) (k_aload_n dX3_replace_10 rfl (k_getf (C := RX3) (T := TX3) (N := 4) (ci := 3) (index := 22) (kf := 3) dX3_replace_11 rfl (fun w h => List.mem_cons_of_mem _ (inX3 w h)) (by decide) (List.mem_cons_of_mem _ mw_130) (k_copy dX3_replace_14 rfl rfl (List.mem_cons_of_mem _ mw_370) (List.mem_cons_of_mem _ mw_372) (List.mem_cons_of_mem _ mw_371) (List.mem_cons_of_mem _ mw_8) (by decide) (by decide) (k_aload_n dX3_replace_17 rfl (k_getf (C := RX3) (T := TX3) (N := 4) (ci := 3) (index := 22) (kf := 3) dX3_replace_18 rfl (fun w h => List.mem_cons_of_mem _ (inX3 w h)) (by decide) (List.mem_cons_of_mem _ mw_130) (k_istore_n dX3_replace_21 rfl (by decide) (k_iconst dX3_replace_22 (by decide +kernel) (k_istore dX3_replace_23 (by decide) ((hK 25)))))))))))))))
theorem nX3_replace_0 : kv_cn (fun K => fX3_replace_0 K) := cn_aload 0 (cn_getf 3 0 (cn_const 0 (cn_aload 0 (cn_getf 3 1 (cn_const 0 (cn_aload 0 (cn_getf 3 3 (cn_copy 1 .char (cn_aload 0 (cn_getf 3 3 (cn_istore 3 (cn_const 0 (cn_istore 4 ((cn_K 25)))))))))))))))
def bX3_replace (K : Nat → kv_D) (pc : Nat) : kv_D := if pc = 25 then fX3_replace_25 K else fun _ _ _ _ _ => False
theorem hX3_replace : ∀ pc, SX3_replace pc (kv_lim (bX3_replace) pc) := kv_lim_S (fun K hK pc => by
  unfold bX3_replace
  by_cases q25 : pc = 25
  · rw [if_pos q25, q25]
    exact sX3_replace_25 hK
  rw [if_neg q25]
  exact kv_none)
theorem uX3_replace_25 {L : List (Option Value)} {st : List Value} {h : kv_H} {v : Option Value} {h' : kv_H} (hx : fX3_replace_25 (kv_lim (bX3_replace)) L st h v h') : kv_lim (bX3_replace) 25 L st h v h' := kv_un (q := 25) (by have e : (fun K => bX3_replace K 25) = fun K => fX3_replace_25 K := (by funext K; rfl); rw [e]; exact nX3_replace_25) (by have e : bX3_replace (kv_lim (bX3_replace)) 25 = fX3_replace_25 (kv_lim (bX3_replace)) := rfl; rw [e]; exact hx)
def mX3_replace : kv_M := kv_in 3 6 (fX3_replace_0 (kv_lim (bX3_replace)))
theorem cX3_replace_ct : kv_CT yX3_replace wX3_replace 2 52 mX3_replace := kv_met (by decide) rfl rfl (by decide) (fun h => by cases h) (sX3_replace_0 (hX3_replace))
-- X4_apply
def wX4_apply : List Cond := Cond.code yX4_apply cX4_apply 3 (some .boolean) :: kv_tb
abbrev SX4_apply (pc : Nat) (F : kv_D) : Prop := kv_S cX4_apply 3 RX4 wX4_apply (some .boolean) false 3 77 none pc F
def fX4_apply_40 : kv_D := o_aload 0 (o_getf 4 3 (o_aload 2 (o_aload 0 (o_getf 4 4 (o_callV 3 2 mX3_replace (o_aload 0 (o_dup (o_getf 4 5 (o_const 1 (o_iadd (o_putf 4 5 .int (o_aload 0 (o_iload 1 (o_putf 4 6 .int (o_const 1 (o_iret .boolean))))))))))))))))
theorem sX4_apply_40 : SX4_apply 40 (fX4_apply_40) := k_aload_n dX4_apply_40 rfl (k_getf (C := RX4) (T := TX4) (N := 8) (ci := 4) (index := 30) (kf := 3) dX4_apply_41 rfl (fun w h => List.mem_cons_of_mem _ (inX4 w h)) (by decide) (List.mem_cons_of_mem _ mw_156) (k_aload_n dX4_apply_44 rfl (k_aload_n dX4_apply_45 rfl (k_getf (C := RX4) (T := TX4) (N := 8) (ci := 4) (index := 37) (kf := 4) dX4_apply_46 rfl (fun w h => List.mem_cons_of_mem _ (inX4 w h)) (by decide) (List.mem_cons_of_mem _ mw_157) (k_callV (q := (RX3, TX3, 4)) dX4_apply_49 cX3_replace_ct rfl (kv_goodV mw_366 mw_367 mw_368 mw_4 mw_369) (by decide +kernel) rfl (by decide) (by decide) (k_aload_n dX4_apply_52 rfl (k_dup dX4_apply_53 (k_getf (C := RX4) (T := TX4) (N := 8) (ci := 4) (index := 41) (kf := 5) dX4_apply_54 rfl (fun w h => List.mem_cons_of_mem _ (inX4 w h)) (by decide) (List.mem_cons_of_mem _ mw_158) (k_iconst dX4_apply_57 (by decide +kernel) (k_iadd dX4_apply_58 (k_putf (C := RX4) (T := TX4) (N := 8) (ci := 4) (index := 41) (kf := 5) (ty := .int) dX4_apply_59 rfl (fun w h => List.mem_cons_of_mem _ (inX4 w h)) tyX4 tyX4_ok nmX4 (by decide) (List.mem_cons_of_mem _ mw_158) rfl rfl (k_aload_n dX4_apply_62 rfl (k_iload_n dX4_apply_63 rfl (k_putf (C := RX4) (T := TX4) (N := 8) (ci := 4) (index := 44) (kf := 6) (ty := .int) dX4_apply_64 rfl (fun w h => List.mem_cons_of_mem _ (inX4 w h)) tyX4 tyX4_ok nmX4 (by decide) (List.mem_cons_of_mem _ mw_159) rfl rfl (k_iconst dX4_apply_67 (by decide +kernel) (k_iret dX4_apply_68 rfl))))))))))))))))
def fX4_apply_33 : kv_D := o_aload 0 (o_const 1 (o_putf 4 7 .boolean (o_const 0 (o_iret .boolean))))
theorem sX4_apply_33 : SX4_apply 33 (fX4_apply_33) := k_aload_n dX4_apply_33 rfl (k_iconst dX4_apply_34 (by decide +kernel) (k_putf (C := RX4) (T := TX4) (N := 8) (ci := 4) (index := 47) (kf := 7) (ty := .boolean) dX4_apply_35 rfl (fun w h => List.mem_cons_of_mem _ (inX4 w h)) tyX4 tyX4_ok nmX4 (by decide) (List.mem_cons_of_mem _ mw_160) rfl rfl (k_iconst dX4_apply_38 (by decide +kernel) (k_iret dX4_apply_39 rfl))))
def fX4_apply_16 : kv_D := o_aload 0 (o_getf 4 3 (o_aload 2 (o_aload 0 (o_getf 4 4 (o_callV 3 2 mX3_sizeAfter (o_const 60 (o_icle (fX4_apply_40) (fX4_apply_33))))))))
theorem sX4_apply_16 : SX4_apply 16 (fX4_apply_16) := k_aload_n dX4_apply_16 rfl (k_getf (C := RX4) (T := TX4) (N := 8) (ci := 4) (index := 30) (kf := 3) dX4_apply_17 rfl (fun w h => List.mem_cons_of_mem _ (inX4 w h)) (by decide) (List.mem_cons_of_mem _ mw_156) (k_aload_n dX4_apply_20 rfl (k_aload_n dX4_apply_21 rfl (k_getf (C := RX4) (T := TX4) (N := 8) (ci := 4) (index := 37) (kf := 4) dX4_apply_22 rfl (fun w h => List.mem_cons_of_mem _ (inX4 w h)) (by decide) (List.mem_cons_of_mem _ mw_157) (k_callV (q := (RX3, TX3, 4)) dX4_apply_25 cX3_sizeAfter_ct rfl (kv_goodV mw_354 mw_355 mw_356 mw_4 mw_357) (by decide +kernel) rfl (by decide) (by decide) (k_bipush dX4_apply_28 (by decide +kernel) (k_icle dX4_apply_30 rfl (sX4_apply_40) (sX4_apply_33))))))))
def fX4_apply_0 : kv_D := o_aload 0 (o_getf 4 1 (o_iload 1 (o_aald 2 (o_astore 2 (o_aload 0 (o_getf 4 5 (o_const 100 (o_icge (fX4_apply_33) (fX4_apply_16)))))))))
theorem sX4_apply_0 : SX4_apply 0 (fX4_apply_0) := k_aload_n dX4_apply_0 rfl (k_getf (C := RX4) (T := TX4) (N := 8) (ci := 4) (index := 18) (kf := 1) dX4_apply_1 rfl (fun w h => List.mem_cons_of_mem _ (inX4 w h)) (by decide) (List.mem_cons_of_mem _ mw_154) (k_iload_n dX4_apply_4 rfl (k_aald dX4_apply_5 rfl (k_astore_n dX4_apply_6 rfl (by decide) (k_aload_n dX4_apply_7 rfl (k_getf (C := RX4) (T := TX4) (N := 8) (ci := 4) (index := 41) (kf := 5) dX4_apply_8 rfl (fun w h => List.mem_cons_of_mem _ (inX4 w h)) (by decide) (List.mem_cons_of_mem _ mw_158) (k_bipush dX4_apply_11 (by decide +kernel) (k_icge dX4_apply_13 rfl (sX4_apply_33) (sX4_apply_16)))))))))
def mX4_apply : kv_M := kv_in 2 3 (fX4_apply_0)
theorem cX4_apply_ct : kv_CT yX4_apply wX4_apply 3 77 mX4_apply := kv_met (by decide) rfl rfl (by decide) (fun h => by cases h) (sX4_apply_0)
-- X4_doAtCursor
def wX4_doAtCursor : List Cond := Cond.code yX4_doAtCursor cX4_doAtCursor 4 (some .boolean) :: kv_tb
abbrev SX4_doAtCursor (pc : Nat) (F : kv_D) : Prop := kv_S cX4_doAtCursor 4 RX4 wX4_doAtCursor (some .boolean) false 4 99 none pc F
def fX4_doAtCursor_53 (K : Nat → kv_D) : kv_D := o_aload 0 (o_getf 4 3 (o_dup (o_getf 3 3 (o_const 1 (o_iadd (o_putf 3 3 .int (o_const 1 (o_iret .boolean))))))))
theorem sX4_doAtCursor_53 {K : Nat → kv_D} (hK : ∀ pc, SX4_doAtCursor pc (K pc)) : SX4_doAtCursor 53 (fX4_doAtCursor_53 K) := k_aload_n dX4_doAtCursor_53 rfl (k_getf (C := RX4) (T := TX4) (N := 8) (ci := 4) (index := 30) (kf := 3) dX4_doAtCursor_54 rfl (fun w h => List.mem_cons_of_mem _ (inX4 w h)) (by decide) (List.mem_cons_of_mem _ mw_156) (k_dup dX4_doAtCursor_57 (k_getN (C := RX3) (T := TX3) (N := 4) (ci := 3) (index := 93) (kf := 3) dX4_doAtCursor_58 rfl (fun w h => List.mem_cons_of_mem _ (inX3 w h)) (by decide) mw_132 (k_iconst dX4_doAtCursor_61 (by decide +kernel) (k_iadd dX4_doAtCursor_62 (k_putN (C := RX3) (T := TX3) (N := 4) (ci := 3) (index := 93) (kf := 3) (ty := .int) dX4_doAtCursor_63 rfl (fun w h => List.mem_cons_of_mem _ (inX3 w h)) tyX3 tyX3_ok nmX3 (by decide) mw_132 rfl rfl (k_iconst dX4_doAtCursor_66 (by decide +kernel) (k_iret dX4_doAtCursor_67 rfl))))))))
theorem nX4_doAtCursor_53 : kv_cn (fun K => fX4_doAtCursor_53 K) := cn_aload 0 (cn_getf 4 3 (cn_dup (cn_getf 3 3 (cn_const 1 (cn_iadd (cn_putf 3 3 .int (cn_const 1 (cn_c _))))))))
def fX4_doAtCursor_47 (K : Nat → kv_D) : kv_D := o_iinc 2 1 ((K 2))
theorem sX4_doAtCursor_47 {K : Nat → kv_D} (hK : ∀ pc, SX4_doAtCursor pc (K pc)) : SX4_doAtCursor 47 (fX4_doAtCursor_47 K) := k_iinc dX4_doAtCursor_47 (by decide +kernel) (by decide) (k_goto dX4_doAtCursor_50 rfl (hK 2))
theorem nX4_doAtCursor_47 : kv_cn (fun K => fX4_doAtCursor_47 K) := cn_iinc 2 1 ((cn_K 2))
def fX4_doAtCursor_41 (K : Nat → kv_D) : kv_D := o_aload 0 (o_iload 2 (o_callV 4 1 mX4_apply (o_iret .boolean)))
theorem sX4_doAtCursor_41 {K : Nat → kv_D} (hK : ∀ pc, SX4_doAtCursor pc (K pc)) : SX4_doAtCursor 41 (fX4_doAtCursor_41 K) := k_aload_n dX4_doAtCursor_41 rfl (k_iload_n dX4_doAtCursor_42 rfl (k_callV (q := (RX4, TX4, 8)) dX4_doAtCursor_43 cX4_apply_ct rfl (kv_goodV mw_350 mw_352 sel_X4_apply mw_1 mw_353) (by decide +kernel) rfl (by decide) (by decide) (k_iret dX4_doAtCursor_46 rfl)))
theorem nX4_doAtCursor_41 : kv_cn (fun K => fX4_doAtCursor_41 K) := cn_aload 0 (cn_iload 2 (cn_callV 4 1 mX4_apply (cn_c _)))
def fX4_doAtCursor_36 (K : Nat → kv_D) : kv_D := o_iload 3 (o_const 1 (o_icne (fX4_doAtCursor_47 K) (fX4_doAtCursor_41 K)))
theorem sX4_doAtCursor_36 {K : Nat → kv_D} (hK : ∀ pc, SX4_doAtCursor pc (K pc)) : SX4_doAtCursor 36 (fX4_doAtCursor_36 K) := k_iload_n dX4_doAtCursor_36 rfl (k_iconst dX4_doAtCursor_37 (by decide +kernel) (k_icne dX4_doAtCursor_38 rfl (sX4_doAtCursor_47 hK) (sX4_doAtCursor_41 hK)))
theorem nX4_doAtCursor_36 : kv_cn (fun K => fX4_doAtCursor_36 K) := cn_iload 3 (cn_const 1 (cn_icne nX4_doAtCursor_47 nX4_doAtCursor_41))
def fX4_doAtCursor_34 (K : Nat → kv_D) : kv_D := o_const 0 (o_iret .boolean)
theorem sX4_doAtCursor_34 {K : Nat → kv_D} (hK : ∀ pc, SX4_doAtCursor pc (K pc)) : SX4_doAtCursor 34 (fX4_doAtCursor_34 K) := k_iconst dX4_doAtCursor_34 (by decide +kernel) (k_iret dX4_doAtCursor_35 rfl)
theorem nX4_doAtCursor_34 : kv_cn (fun K => fX4_doAtCursor_34 K) := cn_const 0 (cn_c _)
def fX4_doAtCursor_10 (K : Nat → kv_D) : kv_D := o_aload 0 (o_getf 4 4 (o_aload 0 (o_getf 4 1 (o_iload 2 (o_aald 2 (o_aload 0 (o_getf 4 3 (o_iload 1 (o_callV 0 3 mX0_run (o_istore 3 (o_iload 3 (o_const 2 (o_icne (fX4_doAtCursor_36 K) (fX4_doAtCursor_34 K))))))))))))))
theorem sX4_doAtCursor_10 {K : Nat → kv_D} (hK : ∀ pc, SX4_doAtCursor pc (K pc)) : SX4_doAtCursor 10 (fX4_doAtCursor_10 K) := k_aload_n dX4_doAtCursor_10 rfl (k_getf (C := RX4) (T := TX4) (N := 8) (ci := 4) (index := 37) (kf := 4) dX4_doAtCursor_11 rfl (fun w h => List.mem_cons_of_mem _ (inX4 w h)) (by decide) (List.mem_cons_of_mem _ mw_157) (k_aload_n dX4_doAtCursor_14 rfl (k_getf (C := RX4) (T := TX4) (N := 8) (ci := 4) (index := 18) (kf := 1) dX4_doAtCursor_15 rfl (fun w h => List.mem_cons_of_mem _ (inX4 w h)) (by decide) (List.mem_cons_of_mem _ mw_154) (k_iload_n dX4_doAtCursor_18 rfl (k_aald dX4_doAtCursor_19 rfl (k_aload_n dX4_doAtCursor_20 rfl (k_getf (C := RX4) (T := TX4) (N := 8) (ci := 4) (index := 30) (kf := 3) dX4_doAtCursor_21 rfl (fun w h => List.mem_cons_of_mem _ (inX4 w h)) (by decide) (List.mem_cons_of_mem _ mw_156) (k_iload_n dX4_doAtCursor_24 rfl (k_callV (q := (RX0, TX0, 1)) dX4_doAtCursor_25 cX0_run_ct rfl (kv_goodV mw_334 mw_335 mw_336 mw_5 mw_337) (by decide +kernel) rfl (by decide) (by decide) (k_istore_n dX4_doAtCursor_28 rfl (by decide) (k_iload_n dX4_doAtCursor_29 rfl (k_iconst dX4_doAtCursor_30 (by decide +kernel) (k_icne dX4_doAtCursor_31 rfl (sX4_doAtCursor_36 hK) (sX4_doAtCursor_34 hK))))))))))))))
theorem nX4_doAtCursor_10 : kv_cn (fun K => fX4_doAtCursor_10 K) := cn_aload 0 (cn_getf 4 4 (cn_aload 0 (cn_getf 4 1 (cn_iload 2 (cn_aald 2 (cn_aload 0 (cn_getf 4 3 (cn_iload 1 (cn_callV 0 3 mX0_run (cn_istore 3 (cn_iload 3 (cn_const 2 (cn_icne nX4_doAtCursor_36 nX4_doAtCursor_34)))))))))))))
def fX4_doAtCursor_2 (K : Nat → kv_D) : kv_D := o_iload 2 (o_aload 0 (o_getf 4 2 (o_icge (fX4_doAtCursor_53 K) (fX4_doAtCursor_10 K))))
theorem sX4_doAtCursor_2 {K : Nat → kv_D} (hK : ∀ pc, SX4_doAtCursor pc (K pc)) : SX4_doAtCursor 2 (fX4_doAtCursor_2 K) := k_iload_n dX4_doAtCursor_2 rfl (k_aload_n dX4_doAtCursor_3 rfl (k_getf (C := RX4) (T := TX4) (N := 8) (ci := 4) (index := 23) (kf := 2) dX4_doAtCursor_4 rfl (fun w h => List.mem_cons_of_mem _ (inX4 w h)) (by decide) (List.mem_cons_of_mem _ mw_155) (k_icge dX4_doAtCursor_7 rfl (sX4_doAtCursor_53 hK) (sX4_doAtCursor_10 hK))))
theorem nX4_doAtCursor_2 : kv_cn (fun K => fX4_doAtCursor_2 K) := cn_iload 2 (cn_aload 0 (cn_getf 4 2 (cn_icge nX4_doAtCursor_53 nX4_doAtCursor_10)))
def fX4_doAtCursor_0 (K : Nat → kv_D) : kv_D := o_const 0 (o_istore 2 ((K 2)))
theorem sX4_doAtCursor_0 {K : Nat → kv_D} (hK : ∀ pc, SX4_doAtCursor pc (K pc)) : SX4_doAtCursor 0 (fX4_doAtCursor_0 K) := k_iconst dX4_doAtCursor_0 (by decide +kernel) (k_istore_n dX4_doAtCursor_1 rfl (by decide) ((hK 2)))
theorem nX4_doAtCursor_0 : kv_cn (fun K => fX4_doAtCursor_0 K) := cn_const 0 (cn_istore 2 ((cn_K 2)))
def bX4_doAtCursor (K : Nat → kv_D) (pc : Nat) : kv_D := if pc = 2 then fX4_doAtCursor_2 K else fun _ _ _ _ _ => False
theorem hX4_doAtCursor : ∀ pc, SX4_doAtCursor pc (kv_lim (bX4_doAtCursor) pc) := kv_lim_S (fun K hK pc => by
  unfold bX4_doAtCursor
  by_cases q2 : pc = 2
  · rw [if_pos q2, q2]
    exact sX4_doAtCursor_2 hK
  rw [if_neg q2]
  exact kv_none)
theorem uX4_doAtCursor_2 {L : List (Option Value)} {st : List Value} {h : kv_H} {v : Option Value} {h' : kv_H} (hx : fX4_doAtCursor_2 (kv_lim (bX4_doAtCursor)) L st h v h') : kv_lim (bX4_doAtCursor) 2 L st h v h' := kv_un (q := 2) (by have e : (fun K => bX4_doAtCursor K 2) = fun K => fX4_doAtCursor_2 K := (by funext K; rfl); rw [e]; exact nX4_doAtCursor_2) (by have e : bX4_doAtCursor (kv_lim (bX4_doAtCursor)) 2 = fX4_doAtCursor_2 (kv_lim (bX4_doAtCursor)) := rfl; rw [e]; exact hx)
def mX4_doAtCursor : kv_M := kv_in 2 4 (fX4_doAtCursor_0 (kv_lim (bX4_doAtCursor)))
theorem cX4_doAtCursor_ct : kv_CT yX4_doAtCursor wX4_doAtCursor 4 99 mX4_doAtCursor := kv_met (by decide) rfl rfl (by decide) (fun h => by cases h) (sX4_doAtCursor_0 (hX4_doAtCursor))
-- X4_rewrite
def wX4_rewrite : List Cond := Cond.code yX4_rewrite cX4_rewrite 5 (some .int) :: kv_tb
abbrev SX4_rewrite (pc : Nat) (F : kv_D) : Prop := kv_S cX4_rewrite 5 RX4 wX4_rewrite (some .int) false 5 122 none pc F
def fX4_rewrite_62 (K : Nat → kv_D) : kv_D := o_aload 0 (o_getf 4 5 (o_iload 2 (o_isub (o_iret .int))))
theorem sX4_rewrite_62 {K : Nat → kv_D} (hK : ∀ pc, SX4_rewrite pc (K pc)) : SX4_rewrite 62 (fX4_rewrite_62 K) := k_aload_n dX4_rewrite_62 rfl (k_getf (C := RX4) (T := TX4) (N := 8) (ci := 4) (index := 41) (kf := 5) dX4_rewrite_63 rfl (fun w h => List.mem_cons_of_mem _ (inX4 w h)) (by decide) (List.mem_cons_of_mem _ mw_158) (k_iload_n dX4_rewrite_66 rfl (k_isub dX4_rewrite_67 (k_iret dX4_rewrite_68 rfl))))
theorem nX4_rewrite_62 : kv_cn (fun K => fX4_rewrite_62 K) := cn_aload 0 (cn_getf 4 5 (cn_iload 2 (cn_isub (cn_c _))))
def fX4_rewrite_50 (K : Nat → kv_D) : kv_D := o_aload 0 (o_iload 1 (o_callV 4 1 mX4_doAtCursor (o_istore 3 (o_iinc 4 1 ((K 21))))))
theorem sX4_rewrite_50 {K : Nat → kv_D} (hK : ∀ pc, SX4_rewrite pc (K pc)) : SX4_rewrite 50 (fX4_rewrite_50 K) := k_aload_n dX4_rewrite_50 rfl (k_iload_n dX4_rewrite_51 rfl (k_callV (q := (RX4, TX4, 8)) dX4_rewrite_52 cX4_doAtCursor_ct rfl (kv_goodV mw_330 mw_332 sel_X4_doAtCursor mw_1 mw_333) (by decide +kernel) rfl (by decide) (by decide) (k_istore_n dX4_rewrite_55 rfl (by decide) (k_iinc dX4_rewrite_56 (by decide +kernel) (by decide) (k_goto dX4_rewrite_59 rfl (hK 21))))))
theorem nX4_rewrite_50 : kv_cn (fun K => fX4_rewrite_50 K) := cn_aload 0 (cn_iload 1 (cn_callV 4 1 mX4_doAtCursor (cn_istore 3 (cn_iinc 4 1 ((cn_K 21))))))
def fX4_rewrite_33 (K : Nat → kv_D) : kv_D := o_aload 0 (o_getf 4 3 (o_getf 3 3 (o_aload 0 (o_getf 4 3 (o_getf 3 2 (o_icge (fX4_rewrite_62 K) (fX4_rewrite_50 K)))))))
theorem sX4_rewrite_33 {K : Nat → kv_D} (hK : ∀ pc, SX4_rewrite pc (K pc)) : SX4_rewrite 33 (fX4_rewrite_33 K) := k_aload_n dX4_rewrite_33 rfl (k_getf (C := RX4) (T := TX4) (N := 8) (ci := 4) (index := 30) (kf := 3) dX4_rewrite_34 rfl (fun w h => List.mem_cons_of_mem _ (inX4 w h)) (by decide) (List.mem_cons_of_mem _ mw_156) (k_getN (C := RX3) (T := TX3) (N := 4) (ci := 3) (index := 93) (kf := 3) dX4_rewrite_37 rfl (fun w h => List.mem_cons_of_mem _ (inX3 w h)) (by decide) mw_132 (k_aload_n dX4_rewrite_40 rfl (k_getf (C := RX4) (T := TX4) (N := 8) (ci := 4) (index := 30) (kf := 3) dX4_rewrite_41 rfl (fun w h => List.mem_cons_of_mem _ (inX4 w h)) (by decide) (List.mem_cons_of_mem _ mw_156) (k_getN (C := RX3) (T := TX3) (N := 4) (ci := 3) (index := 86) (kf := 2) dX4_rewrite_44 rfl (fun w h => List.mem_cons_of_mem _ (inX3 w h)) (by decide) mw_129 (k_icge dX4_rewrite_47 rfl (sX4_rewrite_62 hK) (sX4_rewrite_50 hK)))))))
theorem nX4_rewrite_33 : kv_cn (fun K => fX4_rewrite_33 K) := cn_aload 0 (cn_getf 4 3 (cn_getf 3 3 (cn_aload 0 (cn_getf 4 3 (cn_getf 3 2 (cn_icge nX4_rewrite_62 nX4_rewrite_50))))))
def fX4_rewrite_29 (K : Nat → kv_D) : kv_D := o_iload 3 (o_ifeq (fX4_rewrite_62 K) (fX4_rewrite_33 K))
theorem sX4_rewrite_29 {K : Nat → kv_D} (hK : ∀ pc, SX4_rewrite pc (K pc)) : SX4_rewrite 29 (fX4_rewrite_29 K) := k_iload_n dX4_rewrite_29 rfl (k_ifeq dX4_rewrite_30 rfl (sX4_rewrite_62 hK) (sX4_rewrite_33 hK))
theorem nX4_rewrite_29 : kv_cn (fun K => fX4_rewrite_29 K) := cn_iload 3 (cn_ifeq nX4_rewrite_62 nX4_rewrite_33)
def fX4_rewrite_21 (K : Nat → kv_D) : kv_D := o_iload 4 (o_const 161 (o_icge (fX4_rewrite_62 K) (fX4_rewrite_29 K)))
theorem sX4_rewrite_21 {K : Nat → kv_D} (hK : ∀ pc, SX4_rewrite pc (K pc)) : SX4_rewrite 21 (fX4_rewrite_21 K) := k_iload dX4_rewrite_21 (k_sipush dX4_rewrite_23 (by decide +kernel) (k_icge dX4_rewrite_26 rfl (sX4_rewrite_62 hK) (sX4_rewrite_29 hK)))
theorem nX4_rewrite_21 : kv_cn (fun K => fX4_rewrite_21 K) := cn_iload 4 (cn_const 161 (cn_icge nX4_rewrite_62 nX4_rewrite_29))
def fX4_rewrite_17 (K : Nat → kv_D) : kv_D := o_istore 3 (o_const 0 (o_istore 4 ((K 21))))
theorem sX4_rewrite_17 {K : Nat → kv_D} (hK : ∀ pc, SX4_rewrite pc (K pc)) : SX4_rewrite 17 (fX4_rewrite_17 K) := k_istore_n dX4_rewrite_17 rfl (by decide) (k_iconst dX4_rewrite_18 (by decide +kernel) (k_istore dX4_rewrite_19 (by decide) ((hK 21))))
theorem nX4_rewrite_17 : kv_cn (fun K => fX4_rewrite_17 K) := cn_istore 3 (cn_const 0 (cn_istore 4 ((cn_K 21))))
def fX4_rewrite_16 (K : Nat → kv_D) : kv_D := o_const 0 ((fX4_rewrite_17 K))
theorem sX4_rewrite_16 {K : Nat → kv_D} (hK : ∀ pc, SX4_rewrite pc (K pc)) : SX4_rewrite 16 (fX4_rewrite_16 K) := k_iconst dX4_rewrite_16 (by decide +kernel) ((sX4_rewrite_17 hK))
theorem nX4_rewrite_16 : kv_cn (fun K => fX4_rewrite_16 K) := cn_const 0 (nX4_rewrite_17)
def fX4_rewrite_12 (K : Nat → kv_D) : kv_D := o_const 1 ((fX4_rewrite_17 K))
theorem sX4_rewrite_12 {K : Nat → kv_D} (hK : ∀ pc, SX4_rewrite pc (K pc)) : SX4_rewrite 12 (fX4_rewrite_12 K) := k_iconst dX4_rewrite_12 (by decide +kernel) (k_goto dX4_rewrite_13 rfl (sX4_rewrite_17 hK))
theorem nX4_rewrite_12 : kv_cn (fun K => fX4_rewrite_12 K) := cn_const 1 (nX4_rewrite_17)
def fX4_rewrite_0 (K : Nat → kv_D) : kv_D := o_aload 0 (o_getf 4 5 (o_istore 2 (o_aload 0 (o_getf 4 7 (o_ifne (fX4_rewrite_16 K) (fX4_rewrite_12 K))))))
theorem sX4_rewrite_0 {K : Nat → kv_D} (hK : ∀ pc, SX4_rewrite pc (K pc)) : SX4_rewrite 0 (fX4_rewrite_0 K) := k_aload_n dX4_rewrite_0 rfl (k_getf (C := RX4) (T := TX4) (N := 8) (ci := 4) (index := 41) (kf := 5) dX4_rewrite_1 rfl (fun w h => List.mem_cons_of_mem _ (inX4 w h)) (by decide) (List.mem_cons_of_mem _ mw_158) (k_istore_n dX4_rewrite_4 rfl (by decide) (k_aload_n dX4_rewrite_5 rfl (k_getf (C := RX4) (T := TX4) (N := 8) (ci := 4) (index := 47) (kf := 7) dX4_rewrite_6 rfl (fun w h => List.mem_cons_of_mem _ (inX4 w h)) (by decide) (List.mem_cons_of_mem _ mw_160) (k_ifne dX4_rewrite_9 rfl (sX4_rewrite_16 hK) (sX4_rewrite_12 hK))))))
theorem nX4_rewrite_0 : kv_cn (fun K => fX4_rewrite_0 K) := cn_aload 0 (cn_getf 4 5 (cn_istore 2 (cn_aload 0 (cn_getf 4 7 (cn_ifne nX4_rewrite_16 nX4_rewrite_12)))))
def bX4_rewrite (K : Nat → kv_D) (pc : Nat) : kv_D := if pc = 21 then fX4_rewrite_21 K else fun _ _ _ _ _ => False
theorem hX4_rewrite : ∀ pc, SX4_rewrite pc (kv_lim (bX4_rewrite) pc) := kv_lim_S (fun K hK pc => by
  unfold bX4_rewrite
  by_cases q21 : pc = 21
  · rw [if_pos q21, q21]
    exact sX4_rewrite_21 hK
  rw [if_neg q21]
  exact kv_none)
theorem uX4_rewrite_21 {L : List (Option Value)} {st : List Value} {h : kv_H} {v : Option Value} {h' : kv_H} (hx : fX4_rewrite_21 (kv_lim (bX4_rewrite)) L st h v h') : kv_lim (bX4_rewrite) 21 L st h v h' := kv_un (q := 21) (by have e : (fun K => bX4_rewrite K 21) = fun K => fX4_rewrite_21 K := (by funext K; rfl); rw [e]; exact nX4_rewrite_21) (by have e : bX4_rewrite (kv_lim (bX4_rewrite)) 21 = fX4_rewrite_21 (kv_lim (bX4_rewrite)) := rfl; rw [e]; exact hx)
def mX4_rewrite : kv_M := kv_in 2 5 (fX4_rewrite_0 (kv_lim (bX4_rewrite)))
theorem cX4_rewrite_ct : kv_CT yX4_rewrite wX4_rewrite 5 122 mX4_rewrite := kv_met (by decide) rfl rfl (by decide) (fun h => by cases h) (sX4_rewrite_0 (hX4_rewrite))
-- X4_settle
def wX4_settle : List Cond := Cond.code yX4_settle cX4_settle 1 (some .int) :: kv_tb
abbrev SX4_settle (pc : Nat) (F : kv_D) : Prop := kv_S cX4_settle 1 RX4 wX4_settle (some .int) false 6 146 none pc F
def fX4_settle_0 : kv_D := o_aload 0 (o_const 0 (o_callV 4 1 mX4_rewrite (o_iret .int)))
theorem sX4_settle_0 : SX4_settle 0 (fX4_settle_0) := k_aload_n dX4_settle_0 rfl (k_iconst dX4_settle_1 (by decide +kernel) (k_callV (q := (RX4, TX4, 8)) dX4_settle_2 cX4_rewrite_ct rfl (kv_goodV mw_326 mw_328 sel_X4_rewrite mw_1 mw_329) (by decide +kernel) rfl (by decide) (by decide) (k_iret dX4_settle_5 rfl)))
def mX4_settle : kv_M := kv_in 1 1 (fX4_settle_0)
theorem cX4_settle_ct : kv_CT yX4_settle wX4_settle 6 146 mX4_settle := kv_met (by decide) rfl rfl (by decide) (fun h => by cases h) (sX4_settle_0)
-- X4_finish
def wX4_finish : List Cond := Cond.code yX4_finish cX4_finish 1 (some .int) :: kv_tb
abbrev SX4_finish (pc : Nat) (F : kv_D) : Prop := kv_S cX4_finish 1 RX4 wX4_finish (some .int) false 6 146 none pc F
def fX4_finish_0 : kv_D := o_aload 0 (o_const 1 (o_callV 4 1 mX4_rewrite (o_iret .int)))
theorem sX4_finish_0 : SX4_finish 0 (fX4_finish_0) := k_aload_n dX4_finish_0 rfl (k_iconst dX4_finish_1 (by decide +kernel) (k_callV (q := (RX4, TX4, 8)) dX4_finish_2 cX4_rewrite_ct rfl (kv_goodV mw_326 mw_328 sel_X4_rewrite mw_1 mw_329) (by decide +kernel) rfl (by decide) (by decide) (k_iret dX4_finish_5 rfl)))
def mX4_finish : kv_M := kv_in 1 1 (fX4_finish_0)
theorem cX4_finish_ct : kv_CT yX4_finish wX4_finish 6 146 mX4_finish := kv_met (by decide) rfl rfl (by decide) (fun h => by cases h) (sX4_finish_0)
-- X4_length
def wX4_length : List Cond := Cond.code yX4_length cX4_length 1 (some .int) :: kv_tb
abbrev SX4_length (pc : Nat) (F : kv_D) : Prop := kv_S cX4_length 1 RX4 wX4_length (some .int) false 0 0 none pc F
def fX4_length_0 : kv_D := o_aload 0 (o_getf 4 3 (o_getf 3 2 (o_iret .int)))
theorem sX4_length_0 : SX4_length 0 (fX4_length_0) := k_aload_n dX4_length_0 rfl (k_getf (C := RX4) (T := TX4) (N := 8) (ci := 4) (index := 30) (kf := 3) dX4_length_1 rfl (fun w h => List.mem_cons_of_mem _ (inX4 w h)) (by decide) (List.mem_cons_of_mem _ mw_156) (k_getN (C := RX3) (T := TX3) (N := 4) (ci := 3) (index := 86) (kf := 2) dX4_length_4 rfl (fun w h => List.mem_cons_of_mem _ (inX3 w h)) (by decide) mw_129 (k_iret dX4_length_7 rfl)))
def mX4_length : kv_M := kv_in 1 1 (fX4_length_0)
theorem cX4_length_ct : kv_CT yX4_length wX4_length 0 0 mX4_length := kv_met (by decide) rfl rfl (by decide) (fun h => by cases h) (sX4_length_0)
-- X4_letter
def wX4_letter : List Cond := Cond.code yX4_letter cX4_letter 2 (some .int) :: kv_tb
abbrev SX4_letter (pc : Nat) (F : kv_D) : Prop := kv_S cX4_letter 2 RX4 wX4_letter (some .int) false 0 0 none pc F
def fX4_letter_28 : kv_D := o_iret .int
theorem sX4_letter_28 : SX4_letter 28 (fX4_letter_28) := k_iret dX4_letter_28 rfl
def fX4_letter_27 : kv_D := o_const 0 ((fX4_letter_28))
theorem sX4_letter_27 : SX4_letter 27 (fX4_letter_27) := k_iconst dX4_letter_27 (by decide +kernel) ((sX4_letter_28))
def fX4_letter_15 : kv_D := o_aload 0 (o_getf 4 3 (o_getf 3 0 (o_iload 1 (o_iald 1 ((fX4_letter_28))))))
theorem sX4_letter_15 : SX4_letter 15 (fX4_letter_15) := k_aload_n dX4_letter_15 rfl (k_getf (C := RX4) (T := TX4) (N := 8) (ci := 4) (index := 30) (kf := 3) dX4_letter_16 rfl (fun w h => List.mem_cons_of_mem _ (inX4 w h)) (by decide) (List.mem_cons_of_mem _ mw_156) (k_getN (C := RX3) (T := TX3) (N := 4) (ci := 3) (index := 89) (kf := 0) dX4_letter_19 rfl (fun w h => List.mem_cons_of_mem _ (inX3 w h)) (by decide) mw_125 (k_iload_n dX4_letter_22 rfl (k_cald dX4_letter_23 rfl (k_goto dX4_letter_24 rfl (sX4_letter_28))))))
def fX4_letter_4 : kv_D := o_iload 1 (o_aload 0 (o_getf 4 3 (o_getf 3 2 (o_icge (fX4_letter_27) (fX4_letter_15)))))
theorem sX4_letter_4 : SX4_letter 4 (fX4_letter_4) := k_iload_n dX4_letter_4 rfl (k_aload_n dX4_letter_5 rfl (k_getf (C := RX4) (T := TX4) (N := 8) (ci := 4) (index := 30) (kf := 3) dX4_letter_6 rfl (fun w h => List.mem_cons_of_mem _ (inX4 w h)) (by decide) (List.mem_cons_of_mem _ mw_156) (k_getN (C := RX3) (T := TX3) (N := 4) (ci := 3) (index := 86) (kf := 2) dX4_letter_9 rfl (fun w h => List.mem_cons_of_mem _ (inX3 w h)) (by decide) mw_129 (k_icge dX4_letter_12 rfl (sX4_letter_27) (sX4_letter_15)))))
def fX4_letter_0 : kv_D := o_iload 1 (o_iflt (fX4_letter_27) (fX4_letter_4))
theorem sX4_letter_0 : SX4_letter 0 (fX4_letter_0) := k_iload_n dX4_letter_0 rfl (k_iflt dX4_letter_1 rfl (sX4_letter_27) (sX4_letter_4))
def mX4_letter : kv_M := kv_in 2 2 (fX4_letter_0)
theorem cX4_letter_ct : kv_CT yX4_letter wX4_letter 0 0 mX4_letter := kv_met (by decide) rfl rfl (by decide) (fun h => by cases h) (sX4_letter_0)
-- X4_cursor
def wX4_cursor : List Cond := Cond.code yX4_cursor cX4_cursor 1 (some .int) :: kv_tb
abbrev SX4_cursor (pc : Nat) (F : kv_D) : Prop := kv_S cX4_cursor 1 RX4 wX4_cursor (some .int) false 0 0 none pc F
def fX4_cursor_0 : kv_D := o_aload 0 (o_getf 4 3 (o_getf 3 3 (o_iret .int)))
theorem sX4_cursor_0 : SX4_cursor 0 (fX4_cursor_0) := k_aload_n dX4_cursor_0 rfl (k_getf (C := RX4) (T := TX4) (N := 8) (ci := 4) (index := 30) (kf := 3) dX4_cursor_1 rfl (fun w h => List.mem_cons_of_mem _ (inX4 w h)) (by decide) (List.mem_cons_of_mem _ mw_156) (k_getN (C := RX3) (T := TX3) (N := 4) (ci := 3) (index := 93) (kf := 3) dX4_cursor_4 rfl (fun w h => List.mem_cons_of_mem _ (inX3 w h)) (by decide) mw_132 (k_iret dX4_cursor_7 rfl)))
def mX4_cursor : kv_M := kv_in 1 1 (fX4_cursor_0)
theorem cX4_cursor_ct : kv_CT yX4_cursor wX4_cursor 0 0 mX4_cursor := kv_met (by decide) rfl rfl (by decide) (fun h => by cases h) (sX4_cursor_0)
-- X4_applied
def wX4_applied : List Cond := Cond.code yX4_applied cX4_applied 1 (some .int) :: kv_tb
abbrev SX4_applied (pc : Nat) (F : kv_D) : Prop := kv_S cX4_applied 1 RX4 wX4_applied (some .int) false 0 0 none pc F
def fX4_applied_0 : kv_D := o_aload 0 (o_getf 4 5 (o_iret .int))
theorem sX4_applied_0 : SX4_applied 0 (fX4_applied_0) := k_aload_n dX4_applied_0 rfl (k_getf (C := RX4) (T := TX4) (N := 8) (ci := 4) (index := 41) (kf := 5) dX4_applied_1 rfl (fun w h => List.mem_cons_of_mem _ (inX4 w h)) (by decide) (List.mem_cons_of_mem _ mw_158) (k_iret dX4_applied_4 rfl))
def mX4_applied : kv_M := kv_in 1 1 (fX4_applied_0)
theorem cX4_applied_ct : kv_CT yX4_applied wX4_applied 0 0 mX4_applied := kv_met (by decide) rfl rfl (by decide) (fun h => by cases h) (sX4_applied_0)
-- X4_latest
def wX4_latest : List Cond := Cond.code yX4_latest cX4_latest 1 (some .int) :: kv_tb
abbrev SX4_latest (pc : Nat) (F : kv_D) : Prop := kv_S cX4_latest 1 RX4 wX4_latest (some .int) false 0 0 none pc F
def fX4_latest_0 : kv_D := o_aload 0 (o_getf 4 6 (o_iret .int))
theorem sX4_latest_0 : SX4_latest 0 (fX4_latest_0) := k_aload_n dX4_latest_0 rfl (k_getf (C := RX4) (T := TX4) (N := 8) (ci := 4) (index := 44) (kf := 6) dX4_latest_1 rfl (fun w h => List.mem_cons_of_mem _ (inX4 w h)) (by decide) (List.mem_cons_of_mem _ mw_159) (k_iret dX4_latest_4 rfl))
def mX4_latest : kv_M := kv_in 1 1 (fX4_latest_0)
theorem cX4_latest_ct : kv_CT yX4_latest wX4_latest 0 0 mX4_latest := kv_met (by decide) rfl rfl (by decide) (fun h => by cases h) (sX4_latest_0)
-- X4_stuck
def wX4_stuck : List Cond := Cond.code yX4_stuck cX4_stuck 1 (some .boolean) :: kv_tb
abbrev SX4_stuck (pc : Nat) (F : kv_D) : Prop := kv_S cX4_stuck 1 RX4 wX4_stuck (some .boolean) false 0 0 none pc F
def fX4_stuck_0 : kv_D := o_aload 0 (o_getf 4 7 (o_iret .boolean))
theorem sX4_stuck_0 : SX4_stuck 0 (fX4_stuck_0) := k_aload_n dX4_stuck_0 rfl (k_getf (C := RX4) (T := TX4) (N := 8) (ci := 4) (index := 47) (kf := 7) dX4_stuck_1 rfl (fun w h => List.mem_cons_of_mem _ (inX4 w h)) (by decide) (List.mem_cons_of_mem _ mw_160) (k_iret dX4_stuck_4 rfl))
def mX4_stuck : kv_M := kv_in 1 1 (fX4_stuck_0)
theorem cX4_stuck_ct : kv_CT yX4_stuck wX4_stuck 0 0 mX4_stuck := kv_met (by decide) rfl rfl (by decide) (fun h => by cases h) (sX4_stuck_0)
-- X4_probe
def wX4_probe : List Cond := Cond.code yX4_probe cX4_probe 3 (some .int) :: kv_tb
abbrev SX4_probe (pc : Nat) (F : kv_D) : Prop := kv_S cX4_probe 3 RX4 wX4_probe (some .int) false 3 74 none pc F
def fX4_probe_14 : kv_D := o_aload 0 (o_getf 4 4 (o_aload 0 (o_getf 4 1 (o_iload 1 (o_aald 2 (o_aload 0 (o_getf 4 3 (o_iload 2 (o_callV 0 3 mX0_run (o_iret .int))))))))))
theorem sX4_probe_14 : SX4_probe 14 (fX4_probe_14) := k_aload_n dX4_probe_14 rfl (k_getf (C := RX4) (T := TX4) (N := 8) (ci := 4) (index := 37) (kf := 4) dX4_probe_15 rfl (fun w h => List.mem_cons_of_mem _ (inX4 w h)) (by decide) (List.mem_cons_of_mem _ mw_157) (k_aload_n dX4_probe_18 rfl (k_getf (C := RX4) (T := TX4) (N := 8) (ci := 4) (index := 18) (kf := 1) dX4_probe_19 rfl (fun w h => List.mem_cons_of_mem _ (inX4 w h)) (by decide) (List.mem_cons_of_mem _ mw_154) (k_iload_n dX4_probe_22 rfl (k_aald dX4_probe_23 rfl (k_aload_n dX4_probe_24 rfl (k_getf (C := RX4) (T := TX4) (N := 8) (ci := 4) (index := 30) (kf := 3) dX4_probe_25 rfl (fun w h => List.mem_cons_of_mem _ (inX4 w h)) (by decide) (List.mem_cons_of_mem _ mw_156) (k_iload_n dX4_probe_28 rfl (k_callV (q := (RX0, TX0, 1)) dX4_probe_29 cX0_run_ct rfl (kv_goodV mw_334 mw_335 mw_336 mw_5 mw_337) (by decide +kernel) rfl (by decide) (by decide) (k_iret dX4_probe_32 rfl))))))))))
def fX4_probe_12 : kv_D := o_const (-1) (o_iret .int)
theorem sX4_probe_12 : SX4_probe 12 (fX4_probe_12) := k_iconst dX4_probe_12 (by decide +kernel) (k_iret dX4_probe_13 rfl)
def fX4_probe_4 : kv_D := o_iload 1 (o_aload 0 (o_getf 4 2 (o_iclt (fX4_probe_14) (fX4_probe_12))))
theorem sX4_probe_4 : SX4_probe 4 (fX4_probe_4) := k_iload_n dX4_probe_4 rfl (k_aload_n dX4_probe_5 rfl (k_getf (C := RX4) (T := TX4) (N := 8) (ci := 4) (index := 23) (kf := 2) dX4_probe_6 rfl (fun w h => List.mem_cons_of_mem _ (inX4 w h)) (by decide) (List.mem_cons_of_mem _ mw_155) (k_iclt dX4_probe_9 rfl (sX4_probe_14) (sX4_probe_12))))
def fX4_probe_0 : kv_D := o_iload 1 (o_iflt (fX4_probe_12) (fX4_probe_4))
theorem sX4_probe_0 : SX4_probe 0 (fX4_probe_0) := k_iload_n dX4_probe_0 rfl (k_iflt dX4_probe_1 rfl (sX4_probe_12) (sX4_probe_4))
def mX4_probe : kv_M := kv_in 3 3 (fX4_probe_0)
theorem cX4_probe_ct : kv_CT yX4_probe wX4_probe 3 74 mX4_probe := kv_met (by decide) rfl rfl (by decide) (fun h => by cases h) (sX4_probe_0)
end
