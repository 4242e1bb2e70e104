section
/-- a private method of a class that the tables say can be made, by its rows of tables_1 -/
def lw_okq (q : MethodName × Nat) : Prop := (q.1.cls ≠ "java/lang/invoke/MethodHandle" ∧ q.1.cls ≠ "java/lang/invoke/VarHandle") ∧ Cond.instantiable q.1.cls q.2 ∈ tables_1 ∧ Cond.privateMethod q.1 ∈ tables_1 ∧ Cond.instanceMethod q.1 ∈ tables_1
theorem lw_p0 : lw_okq (⟨"CursorRewriter", "endDefinition", "()I"⟩, 8) := ⟨⟨by decide +kernel, by decide +kernel⟩, List.mem_of_getElem? (i := 10) (by decide +kernel), List.mem_of_getElem? (i := 190) (by decide +kernel), List.mem_of_getElem? (i := 191) (by decide +kernel)⟩
theorem lw_p1 : lw_okq (⟨"CursorRewriter$Statement", "readElement", "()Z"⟩, 6) := ⟨⟨by decide +kernel, by decide +kernel⟩, List.mem_of_getElem? (i := 18) (by decide +kernel), List.mem_of_getElem? (i := 198) (by decide +kernel), List.mem_of_getElem? (i := 199) (by decide +kernel)⟩
theorem lw_p2 : lw_okq (⟨"CursorRewriter$Statement", "next", "()C"⟩, 6) := ⟨⟨by decide +kernel, by decide +kernel⟩, List.mem_of_getElem? (i := 18) (by decide +kernel), List.mem_of_getElem? (i := 202) (by decide +kernel), List.mem_of_getElem? (i := 203) (by decide +kernel)⟩
theorem lw_p3 : lw_okq (⟨"CursorRewriter$Statement", "readBrackets", "()Z"⟩, 6) := ⟨⟨by decide +kernel, by decide +kernel⟩, List.mem_of_getElem? (i := 18) (by decide +kernel), List.mem_of_getElem? (i := 213) (by decide +kernel), List.mem_of_getElem? (i := 214) (by decide +kernel)⟩
theorem lw_p4 : lw_okq (⟨"CursorRewriter$Statement", "skip", "(C)Z"⟩, 6) := ⟨⟨by decide +kernel, by decide +kernel⟩, List.mem_of_getElem? (i := 18) (by decide +kernel), List.mem_of_getElem? (i := 217) (by decide +kernel), List.mem_of_getElem? (i := 218) (by decide +kernel)⟩
theorem lw_p5 : lw_okq (⟨"CursorRewriter", "endRule", "()I"⟩, 8) := ⟨⟨by decide +kernel, by decide +kernel⟩, List.mem_of_getElem? (i := 10) (by decide +kernel), List.mem_of_getElem? (i := 225) (by decide +kernel), List.mem_of_getElem? (i := 226) (by decide +kernel)⟩
theorem lw_p6 : lw_okq (⟨"CursorRewriter$Statement", "hasOpeningBrace", "()Z"⟩, 6) := ⟨⟨by decide +kernel, by decide +kernel⟩, List.mem_of_getElem? (i := 18) (by decide +kernel), List.mem_of_getElem? (i := 237) (by decide +kernel), List.mem_of_getElem? (i := 238) (by decide +kernel)⟩
theorem lw_p7 : lw_okq (⟨"CursorRewriter$Statement", "readContext", "(LCursorRewriter$Rule;)Z"⟩, 6) := ⟨⟨by decide +kernel, by decide +kernel⟩, List.mem_of_getElem? (i := 18) (by decide +kernel), List.mem_of_getElem? (i := 241) (by decide +kernel), List.mem_of_getElem? (i := 242) (by decide +kernel)⟩
theorem lw_p8 : lw_okq (⟨"CursorRewriter$Statement", "readQuantifier", "()C"⟩, 6) := ⟨⟨by decide +kernel, by decide +kernel⟩, List.mem_of_getElem? (i := 18) (by decide +kernel), List.mem_of_getElem? (i := 248) (by decide +kernel), List.mem_of_getElem? (i := 249) (by decide +kernel)⟩
theorem lw_p9 : lw_okq (⟨"CursorRewriter$Statement", "readKey", "(LCursorRewriter$Rule;)Z"⟩, 6) := ⟨⟨by decide +kernel, by decide +kernel⟩, List.mem_of_getElem? (i := 18) (by decide +kernel), List.mem_of_getElem? (i := 256) (by decide +kernel), List.mem_of_getElem? (i := 257) (by decide +kernel)⟩
theorem lw_p10 : lw_okq (⟨"CursorRewriter$Statement", "readReplacement", "(LCursorRewriter$Rule;)Z"⟩, 6) := ⟨⟨by decide +kernel, by decide +kernel⟩, List.mem_of_getElem? (i := 18) (by decide +kernel), List.mem_of_getElem? (i := 264) (by decide +kernel), List.mem_of_getElem? (i := 265) (by decide +kernel)⟩
theorem lw_p11 : lw_okq (⟨"CursorRewriter", "isMasked", "(LCursorRewriter$Rule;)Z"⟩, 8) := ⟨⟨by decide +kernel, by decide +kernel⟩, List.mem_of_getElem? (i := 10) (by decide +kernel), List.mem_of_getElem? (i := 280) (by decide +kernel), List.mem_of_getElem? (i := 281) (by decide +kernel)⟩
theorem lw_p12 : lw_okq (⟨"CursorRewriter", "rewrite", "(Z)I"⟩, 8) := ⟨⟨by decide +kernel, by decide +kernel⟩, List.mem_of_getElem? (i := 10) (by decide +kernel), List.mem_of_getElem? (i := 327) (by decide +kernel), List.mem_of_getElem? (i := 328) (by decide +kernel)⟩
theorem lw_p13 : lw_okq (⟨"CursorRewriter", "doAtCursor", "(Z)Z"⟩, 8) := ⟨⟨by decide +kernel, by decide +kernel⟩, List.mem_of_getElem? (i := 10) (by decide +kernel), List.mem_of_getElem? (i := 331) (by decide +kernel), List.mem_of_getElem? (i := 332) (by decide +kernel)⟩
theorem lw_p14 : lw_okq (⟨"CursorRewriter$Match", "takeBefore", "(LCursorRewriter$Rule;LCursorRewriter$Text;)Z"⟩, 1) := ⟨⟨by decide +kernel, by decide +kernel⟩, List.mem_of_getElem? (i := 143) (by decide +kernel), List.mem_of_getElem? (i := 339) (by decide +kernel), List.mem_of_getElem? (i := 340) (by decide +kernel)⟩
theorem lw_p15 : lw_okq (⟨"CursorRewriter$Match", "takeOnward", "(LCursorRewriter$Rule;LCursorRewriter$Text;IIZ)I"⟩, 1) := ⟨⟨by decide +kernel, by decide +kernel⟩, List.mem_of_getElem? (i := 143) (by decide +kernel), List.mem_of_getElem? (i := 347) (by decide +kernel), List.mem_of_getElem? (i := 348) (by decide +kernel)⟩
def lw_privs_1 : List (MethodName × Nat) := [(⟨"CursorRewriter", "endDefinition", "()I"⟩, 8), (⟨"CursorRewriter$Statement", "readElement", "()Z"⟩, 6), (⟨"CursorRewriter$Statement", "next", "()C"⟩, 6), (⟨"CursorRewriter$Statement", "readBrackets", "()Z"⟩, 6), (⟨"CursorRewriter$Statement", "skip", "(C)Z"⟩, 6), (⟨"CursorRewriter", "endRule", "()I"⟩, 8), (⟨"CursorRewriter$Statement", "hasOpeningBrace", "()Z"⟩, 6), (⟨"CursorRewriter$Statement", "readContext", "(LCursorRewriter$Rule;)Z"⟩, 6), (⟨"CursorRewriter$Statement", "readQuantifier", "()C"⟩, 6), (⟨"CursorRewriter$Statement", "readKey", "(LCursorRewriter$Rule;)Z"⟩, 6), (⟨"CursorRewriter$Statement", "readReplacement", "(LCursorRewriter$Rule;)Z"⟩, 6), (⟨"CursorRewriter", "isMasked", "(LCursorRewriter$Rule;)Z"⟩, 8), (⟨"CursorRewriter", "rewrite", "(Z)I"⟩, 8), (⟨"CursorRewriter", "doAtCursor", "(Z)Z"⟩, 8), (⟨"CursorRewriter$Match", "takeBefore", "(LCursorRewriter$Rule;LCursorRewriter$Text;)Z"⟩, 1), (⟨"CursorRewriter$Match", "takeOnward", "(LCursorRewriter$Rule;LCursorRewriter$Text;IIZ)I"⟩, 1)]
theorem lw_r1 : ∀ q ∈ lw_privs_1, lw_okq q := List.forall_mem_cons.mpr ⟨lw_p0, List.forall_mem_cons.mpr ⟨lw_p1, List.forall_mem_cons.mpr ⟨lw_p2, List.forall_mem_cons.mpr ⟨lw_p3, List.forall_mem_cons.mpr ⟨lw_p4, List.forall_mem_cons.mpr ⟨lw_p5, List.forall_mem_cons.mpr ⟨lw_p6, List.forall_mem_cons.mpr ⟨lw_p7, List.forall_mem_cons.mpr ⟨lw_p8, List.forall_mem_cons.mpr ⟨lw_p9, List.forall_mem_cons.mpr ⟨lw_p10, List.forall_mem_cons.mpr ⟨lw_p11, List.forall_mem_cons.mpr ⟨lw_p12, List.forall_mem_cons.mpr ⟨lw_p13, List.forall_mem_cons.mpr ⟨lw_p14, List.forall_mem_cons.mpr ⟨lw_p15, fun _ h => absurd h List.not_mem_nil⟩⟩⟩⟩⟩⟩⟩⟩⟩⟩⟩⟩⟩⟩⟩⟩
theorem lw_p16 : lw_okq (⟨"CursorRewriter", "apply", "(I)Z"⟩, 8) := ⟨⟨by decide +kernel, by decide +kernel⟩, List.mem_of_getElem? (i := 10) (by decide +kernel), List.mem_of_getElem? (i := 351) (by decide +kernel), List.mem_of_getElem? (i := 352) (by decide +kernel)⟩
theorem lw_p17 : lw_okq (⟨"CursorRewriter$Text", "putPiece", "(LCursorRewriter$Rule;LCursorRewriter$Match;II)I"⟩, 4) := ⟨⟨by decide +kernel, by decide +kernel⟩, List.mem_of_getElem? (i := 119) (by decide +kernel), List.mem_of_getElem? (i := 374) (by decide +kernel), List.mem_of_getElem? (i := 375) (by decide +kernel)⟩
theorem lw_p18 : lw_okq (⟨"CursorRewriterModel", "read", "()I"⟩, 32) := ⟨⟨by decide +kernel, by decide +kernel⟩, List.mem_of_getElem? (i := 414) (by decide +kernel), List.mem_of_getElem? (i := 521) (by decide +kernel), List.mem_of_getElem? (i := 522) (by decide +kernel)⟩
theorem lw_p19 : lw_okq (⟨"CursorRewriterModel", "define", "()I"⟩, 32) := ⟨⟨by decide +kernel, by decide +kernel⟩, List.mem_of_getElem? (i := 414) (by decide +kernel), List.mem_of_getElem? (i := 528) (by decide +kernel), List.mem_of_getElem? (i := 529) (by decide +kernel)⟩
theorem lw_p20 : lw_okq (⟨"CursorRewriterModel", "element", "(II)I"⟩, 32) := ⟨⟨by decide +kernel, by decide +kernel⟩, List.mem_of_getElem? (i := 414) (by decide +kernel), List.mem_of_getElem? (i := 532) (by decide +kernel), List.mem_of_getElem? (i := 533) (by decide +kernel)⟩
theorem lw_p21 : lw_okq (⟨"CursorRewriterModel", "at", "(II)I"⟩, 32) := ⟨⟨by decide +kernel, by decide +kernel⟩, List.mem_of_getElem? (i := 414) (by decide +kernel), List.mem_of_getElem? (i := 536) (by decide +kernel), List.mem_of_getElem? (i := 537) (by decide +kernel)⟩
theorem lw_p22 : lw_okq (⟨"CursorRewriterModel", "brackets", "(II)I"⟩, 32) := ⟨⟨by decide +kernel, by decide +kernel⟩, List.mem_of_getElem? (i := 414) (by decide +kernel), List.mem_of_getElem? (i := 544) (by decide +kernel), List.mem_of_getElem? (i := 545) (by decide +kernel)⟩
theorem lw_p23 : lw_okq (⟨"CursorRewriterModel", "place", "(I)I"⟩, 32) := ⟨⟨by decide +kernel, by decide +kernel⟩, List.mem_of_getElem? (i := 414) (by decide +kernel), List.mem_of_getElem? (i := 548) (by decide +kernel), List.mem_of_getElem? (i := 549) (by decide +kernel)⟩
theorem lw_p24 : lw_okq (⟨"CursorRewriterModel", "replacement", "(I)Z"⟩, 32) := ⟨⟨by decide +kernel, by decide +kernel⟩, List.mem_of_getElem? (i := 414) (by decide +kernel), List.mem_of_getElem? (i := 552) (by decide +kernel), List.mem_of_getElem? (i := 553) (by decide +kernel)⟩
theorem lw_p25 : lw_okq (⟨"CursorRewriterModel", "count", "(III)I"⟩, 32) := ⟨⟨by decide +kernel, by decide +kernel⟩, List.mem_of_getElem? (i := 414) (by decide +kernel), List.mem_of_getElem? (i := 556) (by decide +kernel), List.mem_of_getElem? (i := 557) (by decide +kernel)⟩
theorem lw_p26 : lw_okq (⟨"CursorRewriterModel", "row", "(IIZ)Z"⟩, 32) := ⟨⟨by decide +kernel, by decide +kernel⟩, List.mem_of_getElem? (i := 414) (by decide +kernel), List.mem_of_getElem? (i := 560) (by decide +kernel), List.mem_of_getElem? (i := 561) (by decide +kernel)⟩
theorem lw_p27 : lw_okq (⟨"CursorRewriterModel", "add", "(III)Z"⟩, 32) := ⟨⟨by decide +kernel, by decide +kernel⟩, List.mem_of_getElem? (i := 414) (by decide +kernel), List.mem_of_getElem? (i := 564) (by decide +kernel), List.mem_of_getElem? (i := 565) (by decide +kernel)⟩
theorem lw_p28 : lw_okq (⟨"CursorRewriterModel", "enter", "(III)I"⟩, 32) := ⟨⟨by decide +kernel, by decide +kernel⟩, List.mem_of_getElem? (i := 414) (by decide +kernel), List.mem_of_getElem? (i := 568) (by decide +kernel), List.mem_of_getElem? (i := 569) (by decide +kernel)⟩
theorem lw_p29 : lw_okq (⟨"CursorRewriterModel", "masks", "(II)Z"⟩, 32) := ⟨⟨by decide +kernel, by decide +kernel⟩, List.mem_of_getElem? (i := 414) (by decide +kernel), List.mem_of_getElem? (i := 572) (by decide +kernel), List.mem_of_getElem? (i := 573) (by decide +kernel)⟩
theorem lw_p30 : lw_okq (⟨"CursorRewriterModel", "plain", "(I)Z"⟩, 32) := ⟨⟨by decide +kernel, by decide +kernel⟩, List.mem_of_getElem? (i := 414) (by decide +kernel), List.mem_of_getElem? (i := 576) (by decide +kernel), List.mem_of_getElem? (i := 577) (by decide +kernel)⟩
theorem lw_p31 : lw_okq (⟨"CursorRewriterModel", "match", "(IZ)I"⟩, 32) := ⟨⟨by decide +kernel, by decide +kernel⟩, List.mem_of_getElem? (i := 414) (by decide +kernel), List.mem_of_getElem? (i := 601) (by decide +kernel), List.mem_of_getElem? (i := 602) (by decide +kernel)⟩
def lw_privs_2 : List (MethodName × Nat) := [(⟨"CursorRewriter", "apply", "(I)Z"⟩, 8), (⟨"CursorRewriter$Text", "putPiece", "(LCursorRewriter$Rule;LCursorRewriter$Match;II)I"⟩, 4), (⟨"CursorRewriterModel", "read", "()I"⟩, 32), (⟨"CursorRewriterModel", "define", "()I"⟩, 32), (⟨"CursorRewriterModel", "element", "(II)I"⟩, 32), (⟨"CursorRewriterModel", "at", "(II)I"⟩, 32), (⟨"CursorRewriterModel", "brackets", "(II)I"⟩, 32), (⟨"CursorRewriterModel", "place", "(I)I"⟩, 32), (⟨"CursorRewriterModel", "replacement", "(I)Z"⟩, 32), (⟨"CursorRewriterModel", "count", "(III)I"⟩, 32), (⟨"CursorRewriterModel", "row", "(IIZ)Z"⟩, 32), (⟨"CursorRewriterModel", "add", "(III)Z"⟩, 32), (⟨"CursorRewriterModel", "enter", "(III)I"⟩, 32), (⟨"CursorRewriterModel", "masks", "(II)Z"⟩, 32), (⟨"CursorRewriterModel", "plain", "(I)Z"⟩, 32), (⟨"CursorRewriterModel", "match", "(IZ)I"⟩, 32)]
theorem lw_r2 : ∀ q ∈ lw_privs_2, lw_okq q := List.forall_mem_cons.mpr ⟨lw_p16, List.forall_mem_cons.mpr ⟨lw_p17, List.forall_mem_cons.mpr ⟨lw_p18, List.forall_mem_cons.mpr ⟨lw_p19, List.forall_mem_cons.mpr ⟨lw_p20, List.forall_mem_cons.mpr ⟨lw_p21, List.forall_mem_cons.mpr ⟨lw_p22, List.forall_mem_cons.mpr ⟨lw_p23, List.forall_mem_cons.mpr ⟨lw_p24, List.forall_mem_cons.mpr ⟨lw_p25, List.forall_mem_cons.mpr ⟨lw_p26, List.forall_mem_cons.mpr ⟨lw_p27, List.forall_mem_cons.mpr ⟨lw_p28, List.forall_mem_cons.mpr ⟨lw_p29, List.forall_mem_cons.mpr ⟨lw_p30, List.forall_mem_cons.mpr ⟨lw_p31, fun _ h => absurd h List.not_mem_nil⟩⟩⟩⟩⟩⟩⟩⟩⟩⟩⟩⟩⟩⟩⟩⟩
theorem lw_p32 : lw_okq (⟨"CursorRewriterModel", "before", "(I)Z"⟩, 32) := ⟨⟨by decide +kernel, by decide +kernel⟩, List.mem_of_getElem? (i := 414) (by decide +kernel), List.mem_of_getElem? (i := 605) (by decide +kernel), List.mem_of_getElem? (i := 606) (by decide +kernel)⟩
theorem lw_p33 : lw_okq (⟨"CursorRewriterModel", "rowOf", "(IIZ)I"⟩, 32) := ⟨⟨by decide +kernel, by decide +kernel⟩, List.mem_of_getElem? (i := 414) (by decide +kernel), List.mem_of_getElem? (i := 609) (by decide +kernel), List.mem_of_getElem? (i := 610) (by decide +kernel)⟩
theorem lw_p34 : lw_okq (⟨"CursorRewriterModel", "standsFor", "(II)Z"⟩, 32) := ⟨⟨by decide +kernel, by decide +kernel⟩, List.mem_of_getElem? (i := 414) (by decide +kernel), List.mem_of_getElem? (i := 613) (by decide +kernel), List.mem_of_getElem? (i := 614) (by decide +kernel)⟩
theorem lw_p35 : lw_okq (⟨"CursorRewriterModel", "work", "(Z)I"⟩, 32) := ⟨⟨by decide +kernel, by decide +kernel⟩, List.mem_of_getElem? (i := 414) (by decide +kernel), List.mem_of_getElem? (i := 621) (by decide +kernel), List.mem_of_getElem? (i := 622) (by decide +kernel)⟩
theorem lw_p36 : lw_okq (⟨"CursorRewriterModel", "apply", "(I)Z"⟩, 32) := ⟨⟨by decide +kernel, by decide +kernel⟩, List.mem_of_getElem? (i := 414) (by decide +kernel), List.mem_of_getElem? (i := 625) (by decide +kernel), List.mem_of_getElem? (i := 626) (by decide +kernel)⟩
theorem lw_p37 : lw_okq (⟨"CursorRewriterModel", "given", "(II)I"⟩, 32) := ⟨⟨by decide +kernel, by decide +kernel⟩, List.mem_of_getElem? (i := 414) (by decide +kernel), List.mem_of_getElem? (i := 629) (by decide +kernel), List.mem_of_getElem? (i := 630) (by decide +kernel)⟩
def lw_privs_3 : List (MethodName × Nat) := [(⟨"CursorRewriterModel", "before", "(I)Z"⟩, 32), (⟨"CursorRewriterModel", "rowOf", "(IIZ)I"⟩, 32), (⟨"CursorRewriterModel", "standsFor", "(II)Z"⟩, 32), (⟨"CursorRewriterModel", "work", "(Z)I"⟩, 32), (⟨"CursorRewriterModel", "apply", "(I)Z"⟩, 32), (⟨"CursorRewriterModel", "given", "(II)I"⟩, 32)]
theorem lw_r3 : ∀ q ∈ lw_privs_3, lw_okq q := List.forall_mem_cons.mpr ⟨lw_p32, List.forall_mem_cons.mpr ⟨lw_p33, List.forall_mem_cons.mpr ⟨lw_p34, List.forall_mem_cons.mpr ⟨lw_p35, List.forall_mem_cons.mpr ⟨lw_p36, List.forall_mem_cons.mpr ⟨lw_p37, fun _ h => absurd h List.not_mem_nil⟩⟩⟩⟩⟩⟩
def lw_privs : List (MethodName × Nat) := lw_privs_1 ++ (lw_privs_2 ++ (lw_privs_3))
def lw_tbl : List Cond := k2_sels lw_privs ++ tables_1
theorem lw_privs_ok : ∀ q ∈ lw_privs, lw_okq q := by
  show ∀ q ∈ lw_privs_1 ++ (lw_privs_2 ++ (lw_privs_3)), lw_okq q
  exact List.forall_mem_append.mpr ⟨lw_r1, List.forall_mem_append.mpr ⟨lw_r2, lw_r3⟩⟩
def kv_tb : List Cond := lw_tbl.filter goodWord
def kv_isN (w : Cond) : Bool := match w with
  | .fieldLinkNest _ _ _ _ _ _ => true
  | .methodLinkNest _ _ _ _ => true
  | .arrayOver (.object _) => true
  | _ => false
def kv_nl : List Cond := tables_1.filter kv_isN
def RX0 : String := "CursorRewriter$Match"
def RX1 : String := "CursorRewriter$Rule"
def RX2 : String := "CursorRewriter$Statement"
def RX3 : String := "CursorRewriter$Text"
def RX4 : String := "CursorRewriter"
def RX5 : String := "CursorRewriterModel"
def RL : String := "CursorRewriterLaw"
def TX0 : u_T := fun k => match k with
  | _ => ("CursorRewriter$Match", "begins", "[I", true)
def tyX0 : Nat → FieldType := fun k => match k with
  | _ => (.array .int)
theorem nmX0 : ∀ a, a < 1 → ∀ b, b < 1 → a ≠ b → (TX0 a).2.1 ≠ (TX0 b).2.1 := by decide +kernel
theorem tyX0_ok : ∀ k, k < 1 → parseFieldDescriptor (TX0 k).2.2.1 = some (tyX0 k) := by decide +kernel
theorem inX0 : ∀ w ∈ u_ws RX0 TX0 1, w ∈ kv_tb := fun w h => List.mem_filter.mpr ⟨List.mem_append_right _ ((by decide +kernel : ∀ w ∈ u_ws RX0 TX0 1, w ∈ tables_1) w h), (by decide +kernel : ∀ w ∈ u_ws RX0 TX0 1, goodWord w = true) w h⟩
def TX1 : u_T := fun k => match k with
  | 0 => ("CursorRewriter$Rule", "sets", "[I", true)
  | 1 => ("CursorRewriter$Rule", "least", "[I", true)
  | 2 => ("CursorRewriter$Rule", "most", "[I", true)
  | 3 => ("CursorRewriter$Rule", "elementCount", "I", false)
  | 4 => ("CursorRewriter$Rule", "keyStart", "I", false)
  | 5 => ("CursorRewriter$Rule", "keyEnd", "I", false)
  | 6 => ("CursorRewriter$Rule", "hasQuantifier", "Z", false)
  | 7 => ("CursorRewriter$Rule", "segmentStarts", "[I", true)
  | 8 => ("CursorRewriter$Rule", "segmentEnds", "[I", true)
  | 9 => ("CursorRewriter$Rule", "segmentCount", "I", false)
  | 10 => ("CursorRewriter$Rule", "pieces", "[C", true)
  | 11 => ("CursorRewriter$Rule", "pieceCount", "I", false)
  | 12 => ("CursorRewriter$Rule", "greatestDigit", "I", false)
  | _ => ("CursorRewriter$Rule", "mark", "I", false)
def tyX1 : Nat → FieldType := fun k => match k with
  | 0 => (.array .int)
  | 1 => (.array .int)
  | 2 => (.array .int)
  | 3 => .int
  | 4 => .int
  | 5 => .int
  | 6 => .boolean
  | 7 => (.array .int)
  | 8 => (.array .int)
  | 9 => .int
  | 10 => (.array .char)
  | 11 => .int
  | 12 => .int
  | _ => .int
theorem nmX1 : ∀ a, a < 14 → ∀ b, b < 14 → a ≠ b → (TX1 a).2.1 ≠ (TX1 b).2.1 := by decide +kernel
theorem tyX1_ok : ∀ k, k < 14 → parseFieldDescriptor (TX1 k).2.2.1 = some (tyX1 k) := by decide +kernel
theorem inX1 : ∀ w ∈ u_ws RX1 TX1 14, w ∈ kv_tb := fun w h => List.mem_filter.mpr ⟨List.mem_append_right _ ((by decide +kernel : ∀ w ∈ u_ws RX1 TX1 14, w ∈ tables_1) w h), (by decide +kernel : ∀ w ∈ u_ws RX1 TX1 14, goodWord w = true) w h⟩
def TX2 : u_T := fun k => match k with
  | 0 => ("CursorRewriter$Statement", "typed", "[C", true)
  | 1 => ("CursorRewriter$Statement", "count", "I", false)
  | 2 => ("CursorRewriter$Statement", "at", "I", false)
  | 3 => ("CursorRewriter$Statement", "meanings", "[I", true)
  | 4 => ("CursorRewriter$Statement", "set", "I", false)
  | _ => ("CursorRewriter$Statement", "sawUndefined", "Z", false)
def tyX2 : Nat → FieldType := fun k => match k with
  | 0 => (.array .char)
  | 1 => .int
  | 2 => .int
  | 3 => (.array .int)
  | 4 => .int
  | _ => .boolean
theorem nmX2 : ∀ a, a < 6 → ∀ b, b < 6 → a ≠ b → (TX2 a).2.1 ≠ (TX2 b).2.1 := by decide +kernel
theorem tyX2_ok : ∀ k, k < 6 → parseFieldDescriptor (TX2 k).2.2.1 = some (tyX2 k) := by decide +kernel
theorem inX2 : ∀ w ∈ u_ws RX2 TX2 6, w ∈ kv_tb := fun w h => List.mem_filter.mpr ⟨List.mem_append_right _ ((by decide +kernel : ∀ w ∈ u_ws RX2 TX2 6, w ∈ tables_1) w h), (by decide +kernel : ∀ w ∈ u_ws RX2 TX2 6, goodWord w = true) w h⟩
def TX3 : u_T := fun k => match k with
  | 0 => ("CursorRewriter$Text", "letters", "[C", false)
  | 1 => ("CursorRewriter$Text", "spare", "[C", false)
  | 2 => ("CursorRewriter$Text", "size", "I", false)
  | _ => ("CursorRewriter$Text", "place", "I", false)
def tyX3 : Nat → FieldType := fun k => match k with
  | 0 => (.array .char)
  | 1 => (.array .char)
  | 2 => .int
  | _ => .int
theorem nmX3 : ∀ a, a < 4 → ∀ b, b < 4 → a ≠ b → (TX3 a).2.1 ≠ (TX3 b).2.1 := by decide +kernel
theorem tyX3_ok : ∀ k, k < 4 → parseFieldDescriptor (TX3 k).2.2.1 = some (tyX3 k) := by decide +kernel
theorem inX3 : ∀ w ∈ u_ws RX3 TX3 4, w ∈ kv_tb := fun w h => List.mem_filter.mpr ⟨List.mem_append_right _ ((by decide +kernel : ∀ w ∈ u_ws RX3 TX3 4, w ∈ tables_1) w h), (by decide +kernel : ∀ w ∈ u_ws RX3 TX3 4, goodWord w = true) w h⟩
def TX4 : u_T := fun k => match k with
  | 0 => ("CursorRewriter", "statement", "LCursorRewriter$Statement;", true)
  | 1 => ("CursorRewriter", "ruleRow", "[LCursorRewriter$Rule;", true)
  | 2 => ("CursorRewriter", "ruleCount", "I", false)
  | 3 => ("CursorRewriter", "text", "LCursorRewriter$Text;", true)
  | 4 => ("CursorRewriter", "match", "LCursorRewriter$Match;", true)
  | 5 => ("CursorRewriter", "appliedCount", "I", false)
  | 6 => ("CursorRewriter", "latestRule", "I", false)
  | _ => ("CursorRewriter", "isStuck", "Z", false)
def tyX4 : Nat → FieldType := fun k => match k with
  | 0 => (.object "CursorRewriter$Statement")
  | 1 => (.array (.object "CursorRewriter$Rule"))
  | 2 => .int
  | 3 => (.object "CursorRewriter$Text")
  | 4 => (.object "CursorRewriter$Match")
  | 5 => .int
  | 6 => .int
  | _ => .boolean
theorem nmX4 : ∀ a, a < 8 → ∀ b, b < 8 → a ≠ b → (TX4 a).2.1 ≠ (TX4 b).2.1 := by decide +kernel
theorem tyX4_ok : ∀ k, k < 8 → parseFieldDescriptor (TX4 k).2.2.1 = some (tyX4 k) := by decide +kernel
theorem inX4 : ∀ w ∈ u_ws RX4 TX4 8, w ∈ kv_tb := fun w h => List.mem_filter.mpr ⟨List.mem_append_right _ ((by decide +kernel : ∀ w ∈ u_ws RX4 TX4 8, w ∈ tables_1) w h), (by decide +kernel : ∀ w ∈ u_ws RX4 TX4 8, goodWord w = true) w h⟩
def TX5 : u_T := fun k => match k with
  | 0 => ("CursorRewriterModel", "typed", "I", false)
  | 1 => ("CursorRewriterModel", "sign", "[I", false)
  | 2 => ("CursorRewriterModel", "meaning", "[I", false)
  | 3 => ("CursorRewriterModel", "elements", "I", false)
  | 4 => ("CursorRewriterModel", "set", "[I", false)
  | 5 => ("CursorRewriterModel", "least", "[I", false)
  | 6 => ("CursorRewriterModel", "most", "[I", false)
  | 7 => ("CursorRewriterModel", "segment", "[I", false)
  | 8 => ("CursorRewriterModel", "segments", "I", false)
  | 9 => ("CursorRewriterModel", "unknown", "Z", false)
  | 10 => ("CursorRewriterModel", "next", "I", false)
  | 11 => ("CursorRewriterModel", "rules", "I", false)
  | 12 => ("CursorRewriterModel", "keyAt", "[I", false)
  | 13 => ("CursorRewriterModel", "afterAt", "[I", false)
  | 14 => ("CursorRewriterModel", "ends", "[I", false)
  | 15 => ("CursorRewriterModel", "sets", "[I", false)
  | 16 => ("CursorRewriterModel", "leasts", "[I", false)
  | 17 => ("CursorRewriterModel", "mosts", "[I", false)
  | 18 => ("CursorRewriterModel", "segs", "[I", false)
  | 19 => ("CursorRewriterModel", "sizes", "[I", false)
  | 20 => ("CursorRewriterModel", "stops", "[I", false)
  | 21 => ("CursorRewriterModel", "gives", "[I", false)
  | 22 => ("CursorRewriterModel", "length", "I", false)
  | 23 => ("CursorRewriterModel", "text", "[I", false)
  | 24 => ("CursorRewriterModel", "fresh", "[I", false)
  | 25 => ("CursorRewriterModel", "cursor", "I", false)
  | 26 => ("CursorRewriterModel", "applied", "I", false)
  | 27 => ("CursorRewriterModel", "latest", "I", false)
  | 28 => ("CursorRewriterModel", "stuck", "Z", false)
  | 29 => ("CursorRewriterModel", "keyEnd", "I", false)
  | 30 => ("CursorRewriterModel", "from", "[I", false)
  | _ => ("CursorRewriterModel", "to", "[I", false)
def tyX5 : Nat → FieldType := fun k => match k with
  | 0 => .int
  | 1 => (.array .int)
  | 2 => (.array .int)
  | 3 => .int
  | 4 => (.array .int)
  | 5 => (.array .int)
  | 6 => (.array .int)
  | 7 => (.array .int)
  | 8 => .int
  | 9 => .boolean
  | 10 => .int
  | 11 => .int
  | 12 => (.array .int)
  | 13 => (.array .int)
  | 14 => (.array .int)
  | 15 => (.array .int)
  | 16 => (.array .int)
  | 17 => (.array .int)
  | 18 => (.array .int)
  | 19 => (.array .int)
  | 20 => (.array .int)
  | 21 => (.array .int)
  | 22 => .int
  | 23 => (.array .int)
  | 24 => (.array .int)
  | 25 => .int
  | 26 => .int
  | 27 => .int
  | 28 => .boolean
  | 29 => .int
  | 30 => (.array .int)
  | _ => (.array .int)
theorem nmX5 : ∀ a, a < 32 → ∀ b, b < 32 → a ≠ b → (TX5 a).2.1 ≠ (TX5 b).2.1 := by decide +kernel
theorem tyX5_ok : ∀ k, k < 32 → parseFieldDescriptor (TX5 k).2.2.1 = some (tyX5 k) := by decide +kernel
theorem inX5 : ∀ w ∈ u_ws RX5 TX5 32, w ∈ kv_tb := fun w h => List.mem_filter.mpr ⟨List.mem_append_right _ ((by decide +kernel : ∀ w ∈ u_ws RX5 TX5 32, w ∈ tables_1) w h), (by decide +kernel : ∀ w ∈ u_ws RX5 TX5 32, goodWord w = true) w h⟩
abbrev vwCl : List vw_C := [(RX0, TX0, 1), (RX1, TX1, 14), (RX2, TX2, 6), (RX3, TX3, 4), (RX4, TX4, 8), (RX5, TX5, 32)]
def kv_tl : List FieldType := [.int, .char, .object "CursorRewriter$Rule"]
theorem kv_goodW {w : Cond} (h : w ∈ kv_tb) : goodWord w = true := (List.mem_filter.mp h).2
abbrev cX2_clearMeanings : ByteArray := prog_4_method_3_code
def yX2_clearMeanings : MethodName := ⟨RX2, "clearMeanings", "()V"⟩
abbrev cX2_init : ByteArray := prog_4_method_1_code
def yX2_init : MethodName := ⟨RX2, "<init>", "()V"⟩
abbrev cX1_init : ByteArray := prog_3_method_1_code
def yX1_init : MethodName := ⟨RX1, "<init>", "()V"⟩
abbrev cX3_init : ByteArray := prog_5_method_1_code
def yX3_init : MethodName := ⟨RX3, "<init>", "()V"⟩
abbrev cX0_init : ByteArray := prog_2_method_1_code
def yX0_init : MethodName := ⟨RX0, "<init>", "()V"⟩
abbrev cX4_init : ByteArray := prog_1_method_1_code
def yX4_init : MethodName := ⟨RX4, "<init>", "()V"⟩
abbrev cX5_init : ByteArray := prog_7_method_1_code
def yX5_init : MethodName := ⟨RX5, "<init>", "()V"⟩
abbrev cX4_isCapital : ByteArray := prog_1_method_23_code
def yX4_isCapital : MethodName := ⟨RX4, "isCapital", "(C)Z"⟩
abbrev cX2_looksLikeDefinition : ByteArray := prog_4_method_5_code
def yX2_looksLikeDefinition : MethodName := ⟨RX2, "looksLikeDefinition", "()Z"⟩
abbrev cX2_next : ByteArray := prog_4_method_16_code
def yX2_next : MethodName := ⟨RX2, "next", "()C"⟩
abbrev cX4_isSmall : ByteArray := prog_1_method_22_code
def yX4_isSmall : MethodName := ⟨RX4, "isSmall", "(C)Z"⟩
abbrev cX2_lettersFromTo : ByteArray := prog_4_method_19_code
def yX2_lettersFromTo : MethodName := ⟨RX2, "lettersFromTo", "(CC)I"⟩
abbrev cX2_skip : ByteArray := prog_4_method_17_code
def yX2_skip : MethodName := ⟨RX2, "skip", "(C)Z"⟩
abbrev cX2_readBrackets : ByteArray := prog_4_method_14_code
def yX2_readBrackets : MethodName := ⟨RX2, "readBrackets", "()Z"⟩
abbrev cX2_readElement : ByteArray := prog_4_method_13_code
def yX2_readElement : MethodName := ⟨RX2, "readElement", "()Z"⟩
abbrev cX2_readDefinition : ByteArray := prog_4_method_6_code
def yX2_readDefinition : MethodName := ⟨RX2, "readDefinition", "()Z"⟩
abbrev cX2_define : ByteArray := prog_4_method_7_code
def yX2_define : MethodName := ⟨RX2, "define", "()V"⟩
abbrev cX4_endDefinition : ByteArray := prog_1_method_16_code
def yX4_endDefinition : MethodName := ⟨RX4, "endDefinition", "()I"⟩
abbrev cX1_clear : ByteArray := prog_3_method_2_code
def yX1_clear : MethodName := ⟨RX1, "clear", "()V"⟩
abbrev cX2_hasOpeningBrace : ByteArray := prog_4_method_9_code
def yX2_hasOpeningBrace : MethodName := ⟨RX2, "hasOpeningBrace", "()Z"⟩
abbrev cX2_beginsElement : ByteArray := prog_4_method_18_code
def yX2_beginsElement : MethodName := ⟨RX2, "beginsElement", "(C)Z"⟩
abbrev cX2_readQuantifier : ByteArray := prog_4_method_15_code
def yX2_readQuantifier : MethodName := ⟨RX2, "readQuantifier", "()C"⟩
abbrev cX1_addElement : ByteArray := prog_3_method_3_code
def yX1_addElement : MethodName := ⟨RX1, "addElement", "(IC)V"⟩
abbrev cX2_readContext : ByteArray := prog_4_method_10_code
def yX2_readContext : MethodName := ⟨RX2, "readContext", "(LCursorRewriter$Rule;)Z"⟩
abbrev cX1_addSegment : ByteArray := prog_3_method_4_code
def yX1_addSegment : MethodName := ⟨RX1, "addSegment", "(I)V"⟩
abbrev cX2_readKey : ByteArray := prog_4_method_11_code
def yX2_readKey : MethodName := ⟨RX2, "readKey", "(LCursorRewriter$Rule;)Z"⟩
abbrev cX1_addPiece : ByteArray := prog_3_method_5_code
def yX1_addPiece : MethodName := ⟨RX1, "addPiece", "(C)V"⟩
abbrev cX2_readReplacement : ByteArray := prog_4_method_12_code
def yX2_readReplacement : MethodName := ⟨RX2, "readReplacement", "(LCursorRewriter$Rule;)Z"⟩
abbrev cX2_readRule : ByteArray := prog_4_method_8_code
def yX2_readRule : MethodName := ⟨RX2, "readRule", "(LCursorRewriter$Rule;)Z"⟩
abbrev cX1_isTooLarge : ByteArray := prog_3_method_6_code
def yX1_isTooLarge : MethodName := ⟨RX1, "isTooLarge", "()Z"⟩
abbrev cX1_masks : ByteArray := prog_3_method_7_code
def yX1_masks : MethodName := ⟨RX1, "masks", "(LCursorRewriter$Rule;)Z"⟩
abbrev cX4_isMasked : ByteArray := prog_1_method_18_code
def yX4_isMasked : MethodName := ⟨RX4, "isMasked", "(LCursorRewriter$Rule;)Z"⟩
abbrev cX4_endRule : ByteArray := prog_1_method_17_code
def yX4_endRule : MethodName := ⟨RX4, "endRule", "()I"⟩
abbrev cX2_clear : ByteArray := prog_4_method_2_code
def yX2_clear : MethodName := ⟨RX2, "clear", "()V"⟩
abbrev cX2_type : ByteArray := prog_4_method_4_code
def yX2_type : MethodName := ⟨RX2, "type", "(C)Z"⟩
abbrev cX4_code : ByteArray := prog_1_method_2_code
def yX4_code : MethodName := ⟨RX4, "code", "(C)I"⟩
abbrev cX5_capital : ByteArray := prog_7_method_3_code
def yX5_capital : MethodName := ⟨RX5, "capital", "(I)Z"⟩
abbrev cX5_at : ByteArray := prog_7_method_6_code
def yX5_at : MethodName := ⟨RX5, "at", "(II)I"⟩
abbrev cX5_small : ByteArray := prog_7_method_2_code
def yX5_small : MethodName := ⟨RX5, "small", "(I)Z"⟩
abbrev cX5_brackets : ByteArray := prog_7_method_7_code
def yX5_brackets : MethodName := ⟨RX5, "brackets", "(II)I"⟩
abbrev cX5_element : ByteArray := prog_7_method_8_code
def yX5_element : MethodName := ⟨RX5, "element", "(II)I"⟩
abbrev cX5_define : ByteArray := prog_7_method_11_code
def yX5_define : MethodName := ⟨RX5, "define", "()I"⟩
abbrev cX5_place : ByteArray := prog_7_method_5_code
def yX5_place : MethodName := ⟨RX5, "place", "(I)I"⟩
abbrev cX5_count : ByteArray := prog_7_method_4_code
def yX5_count : MethodName := ⟨RX5, "count", "(III)I"⟩
abbrev cX5_replacement : ByteArray := prog_7_method_12_code
def yX5_replacement : MethodName := ⟨RX5, "replacement", "(I)Z"⟩
abbrev cX5_add : ByteArray := prog_7_method_9_code
def yX5_add : MethodName := ⟨RX5, "add", "(III)Z"⟩
abbrev cX5_row : ByteArray := prog_7_method_10_code
def yX5_row : MethodName := ⟨RX5, "row", "(IIZ)Z"⟩
abbrev cX5_plain : ByteArray := prog_7_method_15_code
def yX5_plain : MethodName := ⟨RX5, "plain", "(I)Z"⟩
abbrev cX5_masks : ByteArray := prog_7_method_16_code
def yX5_masks : MethodName := ⟨RX5, "masks", "(II)Z"⟩
abbrev cX5_enter : ByteArray := prog_7_method_14_code
def yX5_enter : MethodName := ⟨RX5, "enter", "(III)I"⟩
abbrev cX5_read : ByteArray := prog_7_method_13_code
def yX5_read : MethodName := ⟨RX5, "read", "()I"⟩
abbrev cX5_code : ByteArray := prog_7_method_17_code
def yX5_code : MethodName := ⟨RX5, "code", "(C)I"⟩
abbrev cX4_rules : ByteArray := prog_1_method_3_code
def yX4_rules : MethodName := ⟨RX4, "rules", "()I"⟩
abbrev cX5_rules : ByteArray := prog_7_method_18_code
def yX5_rules : MethodName := ⟨RX5, "rules", "()I"⟩
abbrev cX3_clear : ByteArray := prog_5_method_2_code
def yX3_clear : MethodName := ⟨RX3, "clear", "()V"⟩
abbrev cX4_restart : ByteArray := prog_1_method_5_code
def yX4_restart : MethodName := ⟨RX4, "restart", "()V"⟩
abbrev cX4_forget : ByteArray := prog_1_method_4_code
def yX4_forget : MethodName := ⟨RX4, "forget", "()V"⟩
abbrev cX5_restart : ByteArray := prog_7_method_20_code
def yX5_restart : MethodName := ⟨RX5, "restart", "()V"⟩
abbrev cX5_forget : ByteArray := prog_7_method_19_code
def yX5_forget : MethodName := ⟨RX5, "forget", "()V"⟩
abbrev cX3_append : ByteArray := prog_5_method_3_code
def yX3_append : MethodName := ⟨RX3, "append", "(C)Z"⟩
abbrev cX4_write : ByteArray := prog_1_method_6_code
def yX4_write : MethodName := ⟨RX4, "write", "(C)Z"⟩
abbrev cX5_write : ByteArray := prog_7_method_21_code
def yX5_write : MethodName := ⟨RX5, "write", "(C)Z"⟩
abbrev cX3_isIn : ByteArray := prog_5_method_4_code
def yX3_isIn : MethodName := ⟨RX3, "isIn", "(II)Z"⟩
abbrev cX0_takeBefore : ByteArray := prog_2_method_3_code
def yX0_takeBefore : MethodName := ⟨RX0, "takeBefore", "(LCursorRewriter$Rule;LCursorRewriter$Text;)Z"⟩
abbrev cX0_takeOnward : ByteArray := prog_2_method_4_code
def yX0_takeOnward : MethodName := ⟨RX0, "takeOnward", "(LCursorRewriter$Rule;LCursorRewriter$Text;IIZ)I"⟩
abbrev cX0_run : ByteArray := prog_2_method_2_code
def yX0_run : MethodName := ⟨RX0, "run", "(LCursorRewriter$Rule;LCursorRewriter$Text;Z)I"⟩
abbrev cX0_segmentWidth : ByteArray := prog_2_method_6_code
def yX0_segmentWidth : MethodName := ⟨RX0, "segmentWidth", "(LCursorRewriter$Rule;C)I"⟩
abbrev cX3_widthOf : ByteArray := prog_5_method_8_code
def yX3_widthOf : MethodName := ⟨RX3, "widthOf", "(LCursorRewriter$Rule;LCursorRewriter$Match;I)I"⟩
abbrev cX3_sizeAfter : ByteArray := prog_5_method_5_code
def yX3_sizeAfter : MethodName := ⟨RX3, "sizeAfter", "(LCursorRewriter$Rule;LCursorRewriter$Match;)I"⟩
abbrev cX0_segmentBegin : ByteArray := prog_2_method_5_code
def yX0_segmentBegin : MethodName := ⟨RX0, "segmentBegin", "(LCursorRewriter$Rule;C)I"⟩
abbrev cX3_putPiece : ByteArray := prog_5_method_7_code
def yX3_putPiece : MethodName := ⟨RX3, "putPiece", "(LCursorRewriter$Rule;LCursorRewriter$Match;II)I"⟩
abbrev cX3_replace : ByteArray := prog_5_method_6_code
def yX3_replace : MethodName := ⟨RX3, "replace", "(LCursorRewriter$Rule;LCursorRewriter$Match;)V"⟩
abbrev cX4_apply : ByteArray := prog_1_method_21_code
def yX4_apply : MethodName := ⟨RX4, "apply", "(I)Z"⟩
abbrev cX4_doAtCursor : ByteArray := prog_1_method_20_code
def yX4_doAtCursor : MethodName := ⟨RX4, "doAtCursor", "(Z)Z"⟩
abbrev cX4_rewrite : ByteArray := prog_1_method_19_code
def yX4_rewrite : MethodName := ⟨RX4, "rewrite", "(Z)I"⟩
abbrev cX4_settle : ByteArray := prog_1_method_7_code
def yX4_settle : MethodName := ⟨RX4, "settle", "()I"⟩
abbrev cX5_standsFor : ByteArray := prog_7_method_22_code
def yX5_standsFor : MethodName := ⟨RX5, "standsFor", "(II)Z"⟩
abbrev cX5_rowOf : ByteArray := prog_7_method_23_code
def yX5_rowOf : MethodName := ⟨RX5, "rowOf", "(IIZ)I"⟩
abbrev cX5_before : ByteArray := prog_7_method_24_code
def yX5_before : MethodName := ⟨RX5, "before", "(I)Z"⟩
abbrev cX5_match : ByteArray := prog_7_method_25_code
def yX5_match : MethodName := ⟨RX5, "match", "(IZ)I"⟩
abbrev cX5_given : ByteArray := prog_7_method_27_code
def yX5_given : MethodName := ⟨RX5, "given", "(II)I"⟩
abbrev cX5_apply : ByteArray := prog_7_method_28_code
def yX5_apply : MethodName := ⟨RX5, "apply", "(I)Z"⟩
abbrev cX5_work : ByteArray := prog_7_method_29_code
def yX5_work : MethodName := ⟨RX5, "work", "(Z)I"⟩
abbrev cX5_settle : ByteArray := prog_7_method_30_code
def yX5_settle : MethodName := ⟨RX5, "settle", "()I"⟩
abbrev cX4_finish : ByteArray := prog_1_method_8_code
def yX4_finish : MethodName := ⟨RX4, "finish", "()I"⟩
abbrev cX5_finish : ByteArray := prog_7_method_31_code
def yX5_finish : MethodName := ⟨RX5, "finish", "()I"⟩
abbrev cX4_length : ByteArray := prog_1_method_9_code
def yX4_length : MethodName := ⟨RX4, "length", "()I"⟩
abbrev cX5_length : ByteArray := prog_7_method_32_code
def yX5_length : MethodName := ⟨RX5, "length", "()I"⟩
abbrev cX4_letter : ByteArray := prog_1_method_10_code
def yX4_letter : MethodName := ⟨RX4, "letter", "(I)I"⟩
abbrev cX5_letter : ByteArray := prog_7_method_33_code
def yX5_letter : MethodName := ⟨RX5, "letter", "(I)I"⟩
abbrev cX4_cursor : ByteArray := prog_1_method_11_code
def yX4_cursor : MethodName := ⟨RX4, "cursor", "()I"⟩
abbrev cX5_cursor : ByteArray := prog_7_method_34_code
def yX5_cursor : MethodName := ⟨RX5, "cursor", "()I"⟩
abbrev cX4_applied : ByteArray := prog_1_method_12_code
def yX4_applied : MethodName := ⟨RX4, "applied", "()I"⟩
abbrev cX5_applied : ByteArray := prog_7_method_35_code
def yX5_applied : MethodName := ⟨RX5, "applied", "()I"⟩
abbrev cX4_latest : ByteArray := prog_1_method_13_code
def yX4_latest : MethodName := ⟨RX4, "latest", "()I"⟩
abbrev cX5_latest : ByteArray := prog_7_method_36_code
def yX5_latest : MethodName := ⟨RX5, "latest", "()I"⟩
abbrev cX4_stuck : ByteArray := prog_1_method_14_code
def yX4_stuck : MethodName := ⟨RX4, "stuck", "()Z"⟩
abbrev cX5_stuck : ByteArray := prog_7_method_37_code
def yX5_stuck : MethodName := ⟨RX5, "stuck", "()Z"⟩
abbrev cX4_probe : ByteArray := prog_1_method_15_code
def yX4_probe : MethodName := ⟨RX4, "probe", "(IZ)I"⟩
abbrev cX5_probe : ByteArray := prog_7_method_26_code
def yX5_probe : MethodName := ⟨RX5, "probe", "(IZ)I"⟩
abbrev cL_law : ByteArray := code
def yL_law : MethodName := ⟨RL, "law", "([I)Z"⟩
theorem mw_1 : (Cond.initialized "CursorRewriter") ∈ kv_tb := List.mem_filter.mpr ⟨List.mem_append_right _ (List.mem_of_getElem? (i := 1) (by decide +kernel)), rfl⟩
theorem mw_2 : (Cond.initialized "CursorRewriter$Statement") ∈ kv_tb := List.mem_filter.mpr ⟨List.mem_append_right _ (List.mem_of_getElem? (i := 2) (by decide +kernel)), rfl⟩
theorem mw_3 : (Cond.initialized "CursorRewriter$Rule") ∈ kv_tb := List.mem_filter.mpr ⟨List.mem_append_right _ (List.mem_of_getElem? (i := 3) (by decide +kernel)), rfl⟩
theorem mw_4 : (Cond.initialized "CursorRewriter$Text") ∈ kv_tb := List.mem_filter.mpr ⟨List.mem_append_right _ (List.mem_of_getElem? (i := 4) (by decide +kernel)), rfl⟩
theorem mw_5 : (Cond.initialized "CursorRewriter$Match") ∈ kv_tb := List.mem_filter.mpr ⟨List.mem_append_right _ (List.mem_of_getElem? (i := 5) (by decide +kernel)), rfl⟩
theorem mw_6 : (Cond.initialized "CursorRewriterModel") ∈ kv_tb := List.mem_filter.mpr ⟨List.mem_append_right _ (List.mem_of_getElem? (i := 6) (by decide +kernel)), rfl⟩
theorem mw_7 : (Cond.initialized "java/lang/Math") ∈ kv_tb := List.mem_filter.mpr ⟨List.mem_append_right _ (List.mem_of_getElem? (i := 7) (by decide +kernel)), rfl⟩
theorem mw_8 : (Cond.initialized "java/lang/System") ∈ kv_tb := List.mem_filter.mpr ⟨List.mem_append_right _ (List.mem_of_getElem? (i := 8) (by decide +kernel)), rfl⟩
theorem mw_9 : (Cond.classLink "CursorRewriterLaw" (7 : Nat) "CursorRewriter") ∈ kv_tb := List.mem_filter.mpr ⟨List.mem_append_right _ (List.mem_of_getElem? (i := 9) (by decide +kernel)), rfl⟩
theorem mw_10 : (Cond.instantiable "CursorRewriter" (8 : Nat)) ∈ kv_tb := List.mem_filter.mpr ⟨List.mem_append_right _ (List.mem_of_getElem? (i := 10) (by decide +kernel)), rfl⟩
theorem mw_11 : (Cond.methodLink "CursorRewriterLaw" (9 : Nat) ({ cls := "CursorRewriter", name := "<init>", desc := "()V" } : Jvm.MethodName)) ∈ kv_tb := List.mem_filter.mpr ⟨List.mem_append_right _ (List.mem_of_getElem? (i := 11) (by decide +kernel)), rfl⟩
theorem mw_12 : (Cond.instanceMethod ({ cls := "CursorRewriter", name := "<init>", desc := "()V" } : Jvm.MethodName)) ∈ kv_tb := List.mem_filter.mpr ⟨List.mem_append_right _ (List.mem_of_getElem? (i := 12) (by decide +kernel)), rfl⟩
theorem mw_13 : (Cond.code ({ cls := "CursorRewriter", name := "<init>", desc := "()V" } : Jvm.MethodName) prog_1_method_1_code (2 : Nat) (Option.none : Option Jvm.ClassFile.FieldType)) ∈ kv_tb := List.mem_filter.mpr ⟨List.mem_append_right _ (List.mem_of_getElem? (i := 13) (by decide +kernel)), rfl⟩
theorem mw_14 : (Cond.methodLink "CursorRewriter" (3 : Nat) ({ cls := "java/lang/Object", name := "<init>", desc := "()V" } : Jvm.MethodName)) ∈ kv_tb := List.mem_filter.mpr ⟨List.mem_append_right _ (List.mem_of_getElem? (i := 14) (by decide +kernel)), rfl⟩
theorem mw_15 : (Cond.instanceMethod ({ cls := "java/lang/Object", name := "<init>", desc := "()V" } : Jvm.MethodName)) ∈ kv_tb := List.mem_filter.mpr ⟨List.mem_append_right _ (List.mem_of_getElem? (i := 15) (by decide +kernel)), rfl⟩
theorem mw_16 : (Cond.code ({ cls := "java/lang/Object", name := "<init>", desc := "()V" } : Jvm.MethodName) object_method_1_code (1 : Nat) (Option.none : Option Jvm.ClassFile.FieldType)) ∈ kv_tb := List.mem_filter.mpr ⟨List.mem_append_right _ (List.mem_of_getElem? (i := 16) (by decide +kernel)), rfl⟩
theorem mw_17 : (Cond.classLink "CursorRewriter" (9 : Nat) "CursorRewriter$Statement") ∈ kv_tb := List.mem_filter.mpr ⟨List.mem_append_right _ (List.mem_of_getElem? (i := 17) (by decide +kernel)), rfl⟩
theorem mw_18 : (Cond.instantiable "CursorRewriter$Statement" (6 : Nat)) ∈ kv_tb := List.mem_filter.mpr ⟨List.mem_append_right _ (List.mem_of_getElem? (i := 18) (by decide +kernel)), rfl⟩
theorem mw_19 : (Cond.methodLink "CursorRewriter" (11 : Nat) ({ cls := "CursorRewriter$Statement", name := "<init>", desc := "()V" } : Jvm.MethodName)) ∈ kv_tb := List.mem_filter.mpr ⟨List.mem_append_right _ (List.mem_of_getElem? (i := 19) (by decide +kernel)), rfl⟩
theorem mw_20 : (Cond.instanceMethod ({ cls := "CursorRewriter$Statement", name := "<init>", desc := "()V" } : Jvm.MethodName)) ∈ kv_tb := List.mem_filter.mpr ⟨List.mem_append_right _ (List.mem_of_getElem? (i := 20) (by decide +kernel)), rfl⟩
theorem mw_21 : (Cond.code ({ cls := "CursorRewriter$Statement", name := "<init>", desc := "()V" } : Jvm.MethodName) prog_4_method_1_code (1 : Nat) (Option.none : Option Jvm.ClassFile.FieldType)) ∈ kv_tb := List.mem_filter.mpr ⟨List.mem_append_right _ (List.mem_of_getElem? (i := 21) (by decide +kernel)), rfl⟩
theorem mw_22 : (Cond.methodLink "CursorRewriter$Statement" (3 : Nat) ({ cls := "java/lang/Object", name := "<init>", desc := "()V" } : Jvm.MethodName)) ∈ kv_tb := List.mem_filter.mpr ⟨List.mem_append_right _ (List.mem_of_getElem? (i := 22) (by decide +kernel)), rfl⟩
theorem mw_23 : (Cond.methodLink "CursorRewriter$Statement" (33 : Nat) ({ cls := "CursorRewriter$Statement", name := "clearMeanings", desc := "()V" } : Jvm.MethodName)) ∈ kv_tb := List.mem_filter.mpr ⟨List.mem_append_right _ (List.mem_of_getElem? (i := 23) (by decide +kernel)), rfl⟩
theorem mw_24 : (Cond.instanceMethod ({ cls := "CursorRewriter$Statement", name := "clearMeanings", desc := "()V" } : Jvm.MethodName)) ∈ kv_tb := List.mem_filter.mpr ⟨List.mem_append_right _ (List.mem_of_getElem? (i := 24) (by decide +kernel)), rfl⟩
theorem mw_25 : (Cond.selects "CursorRewriter$Statement" ({ cls := "CursorRewriter$Statement", name := "clearMeanings", desc := "()V" } : Jvm.MethodName) ({ cls := "CursorRewriter$Statement", name := "clearMeanings", desc := "()V" } : Jvm.MethodName)) ∈ kv_tb := List.mem_filter.mpr ⟨List.mem_append_right _ (List.mem_of_getElem? (i := 25) (by decide +kernel)), rfl⟩
theorem mw_26 : (Cond.code ({ cls := "CursorRewriter$Statement", name := "clearMeanings", desc := "()V" } : Jvm.MethodName) prog_4_method_3_code (2 : Nat) (Option.none : Option Jvm.ClassFile.FieldType)) ∈ kv_tb := List.mem_filter.mpr ⟨List.mem_append_right _ (List.mem_of_getElem? (i := 26) (by decide +kernel)), rfl⟩
theorem mw_27 : (Cond.fieldLink "CursorRewriter$Statement" (9 : Nat) "CursorRewriter$Statement" "typed" "[C") ∈ kv_tb := List.mem_filter.mpr ⟨List.mem_append_right _ (List.mem_of_getElem? (i := 27) (by decide +kernel)), rfl⟩
theorem mw_28 : (Cond.fieldLink "CursorRewriter$Statement" (15 : Nat) "CursorRewriter$Statement" "count" "I") ∈ kv_tb := List.mem_filter.mpr ⟨List.mem_append_right _ (List.mem_of_getElem? (i := 28) (by decide +kernel)), rfl⟩
theorem mw_29 : (Cond.fieldLink "CursorRewriter$Statement" (19 : Nat) "CursorRewriter$Statement" "at" "I") ∈ kv_tb := List.mem_filter.mpr ⟨List.mem_append_right _ (List.mem_of_getElem? (i := 29) (by decide +kernel)), rfl⟩
theorem mw_30 : (Cond.fieldLink "CursorRewriter$Statement" (22 : Nat) "CursorRewriter$Statement" "meanings" "[I") ∈ kv_tb := List.mem_filter.mpr ⟨List.mem_append_right _ (List.mem_of_getElem? (i := 30) (by decide +kernel)), rfl⟩
theorem mw_31 : (Cond.fieldLink "CursorRewriter$Statement" (26 : Nat) "CursorRewriter$Statement" "set" "I") ∈ kv_tb := List.mem_filter.mpr ⟨List.mem_append_right _ (List.mem_of_getElem? (i := 31) (by decide +kernel)), rfl⟩
theorem mw_32 : (Cond.fieldLink "CursorRewriter$Statement" (29 : Nat) "CursorRewriter$Statement" "sawUndefined" "Z") ∈ kv_tb := List.mem_filter.mpr ⟨List.mem_append_right _ (List.mem_of_getElem? (i := 32) (by decide +kernel)), rfl⟩
theorem mw_33 : (Cond.fieldLinkNest "CursorRewriter" (103 : Nat) "CursorRewriter$Statement" "sawUndefined" "Z" "CursorRewriter") ∈ kv_nl := List.mem_filter.mpr ⟨List.mem_of_getElem? (i := 33) (by decide +kernel), rfl⟩
theorem mw_47 : (Cond.arrayClass Jvm.ClassFile.FieldType.char) ∈ kv_tb := List.mem_filter.mpr ⟨List.mem_append_right _ (List.mem_of_getElem? (i := 47) (by decide +kernel)), rfl⟩
theorem mw_48 : (Cond.arrayClass Jvm.ClassFile.FieldType.int) ∈ kv_tb := List.mem_filter.mpr ⟨List.mem_append_right _ (List.mem_of_getElem? (i := 48) (by decide +kernel)), rfl⟩
theorem mw_49 : (Cond.classLink "CursorRewriter" (16 : Nat) "CursorRewriter$Rule") ∈ kv_tb := List.mem_filter.mpr ⟨List.mem_append_right _ (List.mem_of_getElem? (i := 49) (by decide +kernel)), rfl⟩
theorem mw_50 : (Cond.arrayOver (Jvm.ClassFile.FieldType.object "CursorRewriter$Rule")) ∈ kv_nl := List.mem_filter.mpr ⟨List.mem_of_getElem? (i := 50) (by decide +kernel), rfl⟩
theorem mw_51 : (Cond.instantiable "CursorRewriter$Rule" (14 : Nat)) ∈ kv_tb := List.mem_filter.mpr ⟨List.mem_append_right _ (List.mem_of_getElem? (i := 51) (by decide +kernel)), rfl⟩
theorem mw_52 : (Cond.methodLinkNest "CursorRewriter" (22 : Nat) ({ cls := "CursorRewriter$Rule", name := "<init>", desc := "()V" } : Jvm.MethodName) "CursorRewriter") ∈ kv_nl := List.mem_filter.mpr ⟨List.mem_of_getElem? (i := 52) (by decide +kernel), rfl⟩
theorem mw_53 : (Cond.instanceMethod ({ cls := "CursorRewriter$Rule", name := "<init>", desc := "()V" } : Jvm.MethodName)) ∈ kv_tb := List.mem_filter.mpr ⟨List.mem_append_right _ (List.mem_of_getElem? (i := 53) (by decide +kernel)), rfl⟩
theorem mw_54 : (Cond.code ({ cls := "CursorRewriter$Rule", name := "<init>", desc := "()V" } : Jvm.MethodName) prog_3_method_1_code (1 : Nat) (Option.none : Option Jvm.ClassFile.FieldType)) ∈ kv_tb := List.mem_filter.mpr ⟨List.mem_append_right _ (List.mem_of_getElem? (i := 54) (by decide +kernel)), rfl⟩
theorem mw_55 : (Cond.methodLink "CursorRewriter$Rule" (3 : Nat) ({ cls := "java/lang/Object", name := "<init>", desc := "()V" } : Jvm.MethodName)) ∈ kv_tb := List.mem_filter.mpr ⟨List.mem_append_right _ (List.mem_of_getElem? (i := 55) (by decide +kernel)), rfl⟩
theorem mw_56 : (Cond.fieldLink "CursorRewriter$Rule" (9 : Nat) "CursorRewriter$Rule" "sets" "[I") ∈ kv_tb := List.mem_filter.mpr ⟨List.mem_append_right _ (List.mem_of_getElem? (i := 56) (by decide +kernel)), rfl⟩
theorem mw_57 : (Cond.fieldLinkNest "CursorRewriter$Match" (43 : Nat) "CursorRewriter$Rule" "sets" "[I" "CursorRewriter") ∈ kv_nl := List.mem_filter.mpr ⟨List.mem_of_getElem? (i := 57) (by decide +kernel), rfl⟩
theorem mw_58 : (Cond.fieldLink "CursorRewriter$Rule" (15 : Nat) "CursorRewriter$Rule" "least" "[I") ∈ kv_tb := List.mem_filter.mpr ⟨List.mem_append_right _ (List.mem_of_getElem? (i := 58) (by decide +kernel)), rfl⟩
theorem mw_59 : (Cond.fieldLinkNest "CursorRewriter$Match" (50 : Nat) "CursorRewriter$Rule" "least" "[I" "CursorRewriter") ∈ kv_nl := List.mem_filter.mpr ⟨List.mem_of_getElem? (i := 59) (by decide +kernel), rfl⟩
theorem mw_60 : (Cond.fieldLink "CursorRewriter$Rule" (18 : Nat) "CursorRewriter$Rule" "most" "[I") ∈ kv_tb := List.mem_filter.mpr ⟨List.mem_append_right _ (List.mem_of_getElem? (i := 60) (by decide +kernel)), rfl⟩
theorem mw_61 : (Cond.fieldLinkNest "CursorRewriter$Match" (40 : Nat) "CursorRewriter$Rule" "most" "[I" "CursorRewriter") ∈ kv_nl := List.mem_filter.mpr ⟨List.mem_of_getElem? (i := 61) (by decide +kernel), rfl⟩
theorem mw_62 : (Cond.fieldLink "CursorRewriter$Rule" (21 : Nat) "CursorRewriter$Rule" "elementCount" "I") ∈ kv_tb := List.mem_filter.mpr ⟨List.mem_append_right _ (List.mem_of_getElem? (i := 62) (by decide +kernel)), rfl⟩
theorem mw_63 : (Cond.fieldLinkNest "CursorRewriter$Match" (37 : Nat) "CursorRewriter$Rule" "elementCount" "I" "CursorRewriter") ∈ kv_nl := List.mem_filter.mpr ⟨List.mem_of_getElem? (i := 63) (by decide +kernel), rfl⟩
theorem mw_64 : (Cond.fieldLinkNest "CursorRewriter$Statement" (54 : Nat) "CursorRewriter$Rule" "elementCount" "I" "CursorRewriter") ∈ kv_nl := List.mem_filter.mpr ⟨List.mem_of_getElem? (i := 64) (by decide +kernel), rfl⟩
theorem mw_65 : (Cond.fieldLink "CursorRewriter$Rule" (25 : Nat) "CursorRewriter$Rule" "keyStart" "I") ∈ kv_tb := List.mem_filter.mpr ⟨List.mem_append_right _ (List.mem_of_getElem? (i := 65) (by decide +kernel)), rfl⟩
theorem mw_66 : (Cond.fieldLinkNest "CursorRewriter$Match" (19 : Nat) "CursorRewriter$Rule" "keyStart" "I" "CursorRewriter") ∈ kv_nl := List.mem_filter.mpr ⟨List.mem_of_getElem? (i := 66) (by decide +kernel), rfl⟩
theorem mw_67 : (Cond.fieldLinkNest "CursorRewriter$Statement" (59 : Nat) "CursorRewriter$Rule" "keyStart" "I" "CursorRewriter") ∈ kv_nl := List.mem_filter.mpr ⟨List.mem_of_getElem? (i := 67) (by decide +kernel), rfl⟩
theorem mw_68 : (Cond.fieldLink "CursorRewriter$Rule" (28 : Nat) "CursorRewriter$Rule" "keyEnd" "I") ∈ kv_tb := List.mem_filter.mpr ⟨List.mem_append_right _ (List.mem_of_getElem? (i := 68) (by decide +kernel)), rfl⟩
theorem mw_69 : (Cond.fieldLinkNest "CursorRewriter$Match" (30 : Nat) "CursorRewriter$Rule" "keyEnd" "I" "CursorRewriter") ∈ kv_nl := List.mem_filter.mpr ⟨List.mem_of_getElem? (i := 69) (by decide +kernel), rfl⟩
theorem mw_70 : (Cond.fieldLinkNest "CursorRewriter$Text" (31 : Nat) "CursorRewriter$Rule" "keyEnd" "I" "CursorRewriter") ∈ kv_nl := List.mem_filter.mpr ⟨List.mem_of_getElem? (i := 70) (by decide +kernel), rfl⟩
theorem mw_71 : (Cond.fieldLinkNest "CursorRewriter$Statement" (65 : Nat) "CursorRewriter$Rule" "keyEnd" "I" "CursorRewriter") ∈ kv_nl := List.mem_filter.mpr ⟨List.mem_of_getElem? (i := 71) (by decide +kernel), rfl⟩
theorem mw_72 : (Cond.fieldLink "CursorRewriter$Rule" (31 : Nat) "CursorRewriter$Rule" "hasQuantifier" "Z") ∈ kv_tb := List.mem_filter.mpr ⟨List.mem_append_right _ (List.mem_of_getElem? (i := 72) (by decide +kernel)), rfl⟩
theorem mw_73 : (Cond.fieldLink "CursorRewriter$Rule" (35 : Nat) "CursorRewriter$Rule" "segmentStarts" "[I") ∈ kv_tb := List.mem_filter.mpr ⟨List.mem_append_right _ (List.mem_of_getElem? (i := 73) (by decide +kernel)), rfl⟩
theorem mw_74 : (Cond.fieldLinkNest "CursorRewriter$Match" (56 : Nat) "CursorRewriter$Rule" "segmentStarts" "[I" "CursorRewriter") ∈ kv_nl := List.mem_filter.mpr ⟨List.mem_of_getElem? (i := 74) (by decide +kernel), rfl⟩
theorem mw_75 : (Cond.fieldLink "CursorRewriter$Rule" (38 : Nat) "CursorRewriter$Rule" "segmentEnds" "[I") ∈ kv_tb := List.mem_filter.mpr ⟨List.mem_append_right _ (List.mem_of_getElem? (i := 75) (by decide +kernel)), rfl⟩
theorem mw_76 : (Cond.fieldLinkNest "CursorRewriter$Match" (59 : Nat) "CursorRewriter$Rule" "segmentEnds" "[I" "CursorRewriter") ∈ kv_nl := List.mem_filter.mpr ⟨List.mem_of_getElem? (i := 76) (by decide +kernel), rfl⟩
theorem mw_77 : (Cond.fieldLink "CursorRewriter$Rule" (41 : Nat) "CursorRewriter$Rule" "segmentCount" "I") ∈ kv_tb := List.mem_filter.mpr ⟨List.mem_append_right _ (List.mem_of_getElem? (i := 77) (by decide +kernel)), rfl⟩
theorem mw_78 : (Cond.fieldLinkNest "CursorRewriter" (117 : Nat) "CursorRewriter$Rule" "segmentCount" "I" "CursorRewriter") ∈ kv_nl := List.mem_filter.mpr ⟨List.mem_of_getElem? (i := 78) (by decide +kernel), rfl⟩
theorem mw_79 : (Cond.fieldLink "CursorRewriter$Rule" (44 : Nat) "CursorRewriter$Rule" "pieces" "[C") ∈ kv_tb := List.mem_filter.mpr ⟨List.mem_append_right _ (List.mem_of_getElem? (i := 79) (by decide +kernel)), rfl⟩
theorem mw_80 : (Cond.fieldLinkNest "CursorRewriter$Text" (56 : Nat) "CursorRewriter$Rule" "pieces" "[C" "CursorRewriter") ∈ kv_nl := List.mem_filter.mpr ⟨List.mem_of_getElem? (i := 80) (by decide +kernel), rfl⟩
theorem mw_81 : (Cond.fieldLink "CursorRewriter$Rule" (48 : Nat) "CursorRewriter$Rule" "pieceCount" "I") ∈ kv_tb := List.mem_filter.mpr ⟨List.mem_append_right _ (List.mem_of_getElem? (i := 81) (by decide +kernel)), rfl⟩
theorem mw_82 : (Cond.fieldLinkNest "CursorRewriter$Text" (36 : Nat) "CursorRewriter$Rule" "pieceCount" "I" "CursorRewriter") ∈ kv_nl := List.mem_filter.mpr ⟨List.mem_of_getElem? (i := 82) (by decide +kernel), rfl⟩
theorem mw_83 : (Cond.fieldLinkNest "CursorRewriter$Statement" (89 : Nat) "CursorRewriter$Rule" "pieceCount" "I" "CursorRewriter") ∈ kv_nl := List.mem_filter.mpr ⟨List.mem_of_getElem? (i := 83) (by decide +kernel), rfl⟩
theorem mw_84 : (Cond.fieldLink "CursorRewriter$Rule" (51 : Nat) "CursorRewriter$Rule" "greatestDigit" "I") ∈ kv_tb := List.mem_filter.mpr ⟨List.mem_append_right _ (List.mem_of_getElem? (i := 84) (by decide +kernel)), rfl⟩
theorem mw_85 : (Cond.fieldLinkNest "CursorRewriter" (114 : Nat) "CursorRewriter$Rule" "greatestDigit" "I" "CursorRewriter") ∈ kv_nl := List.mem_filter.mpr ⟨List.mem_of_getElem? (i := 85) (by decide +kernel), rfl⟩
theorem mw_86 : (Cond.fieldLink "CursorRewriter$Rule" (54 : Nat) "CursorRewriter$Rule" "mark" "I") ∈ kv_tb := List.mem_filter.mpr ⟨List.mem_append_right _ (List.mem_of_getElem? (i := 86) (by decide +kernel)), rfl⟩
theorem mw_87 : (Cond.fieldLinkNest "CursorRewriter$Text" (53 : Nat) "CursorRewriter$Rule" "mark" "I" "CursorRewriter") ∈ kv_nl := List.mem_filter.mpr ⟨List.mem_of_getElem? (i := 87) (by decide +kernel), rfl⟩
theorem mw_88 : (Cond.fieldLinkNest "CursorRewriter$Statement" (92 : Nat) "CursorRewriter$Rule" "mark" "I" "CursorRewriter") ∈ kv_nl := List.mem_filter.mpr ⟨List.mem_of_getElem? (i := 88) (by decide +kernel), rfl⟩
theorem mw_118 : (Cond.classLink "CursorRewriter" (27 : Nat) "CursorRewriter$Text") ∈ kv_tb := List.mem_filter.mpr ⟨List.mem_append_right _ (List.mem_of_getElem? (i := 118) (by decide +kernel)), rfl⟩
theorem mw_119 : (Cond.instantiable "CursorRewriter$Text" (4 : Nat)) ∈ kv_tb := List.mem_filter.mpr ⟨List.mem_append_right _ (List.mem_of_getElem? (i := 119) (by decide +kernel)), rfl⟩
theorem mw_120 : (Cond.methodLinkNest "CursorRewriter" (29 : Nat) ({ cls := "CursorRewriter$Text", name := "<init>", desc := "()V" } : Jvm.MethodName) "CursorRewriter") ∈ kv_nl := List.mem_filter.mpr ⟨List.mem_of_getElem? (i := 120) (by decide +kernel), rfl⟩
theorem mw_121 : (Cond.instanceMethod ({ cls := "CursorRewriter$Text", name := "<init>", desc := "()V" } : Jvm.MethodName)) ∈ kv_tb := List.mem_filter.mpr ⟨List.mem_append_right _ (List.mem_of_getElem? (i := 121) (by decide +kernel)), rfl⟩
theorem mw_122 : (Cond.code ({ cls := "CursorRewriter$Text", name := "<init>", desc := "()V" } : Jvm.MethodName) prog_5_method_1_code (1 : Nat) (Option.none : Option Jvm.ClassFile.FieldType)) ∈ kv_tb := List.mem_filter.mpr ⟨List.mem_append_right _ (List.mem_of_getElem? (i := 122) (by decide +kernel)), rfl⟩
theorem mw_123 : (Cond.methodLink "CursorRewriter$Text" (3 : Nat) ({ cls := "java/lang/Object", name := "<init>", desc := "()V" } : Jvm.MethodName)) ∈ kv_tb := List.mem_filter.mpr ⟨List.mem_append_right _ (List.mem_of_getElem? (i := 123) (by decide +kernel)), rfl⟩
theorem mw_124 : (Cond.fieldLink "CursorRewriter$Text" (9 : Nat) "CursorRewriter$Text" "letters" "[C") ∈ kv_tb := List.mem_filter.mpr ⟨List.mem_append_right _ (List.mem_of_getElem? (i := 124) (by decide +kernel)), rfl⟩
theorem mw_125 : (Cond.fieldLinkNest "CursorRewriter" (89 : Nat) "CursorRewriter$Text" "letters" "[C" "CursorRewriter") ∈ kv_nl := List.mem_filter.mpr ⟨List.mem_of_getElem? (i := 125) (by decide +kernel), rfl⟩
theorem mw_126 : (Cond.fieldLink "CursorRewriter$Text" (15 : Nat) "CursorRewriter$Text" "spare" "[C") ∈ kv_tb := List.mem_filter.mpr ⟨List.mem_append_right _ (List.mem_of_getElem? (i := 126) (by decide +kernel)), rfl⟩
theorem mw_127 : (Cond.fieldLink "CursorRewriter$Text" (18 : Nat) "CursorRewriter$Text" "size" "I") ∈ kv_tb := List.mem_filter.mpr ⟨List.mem_append_right _ (List.mem_of_getElem? (i := 127) (by decide +kernel)), rfl⟩
theorem mw_128 : (Cond.fieldLinkNest "CursorRewriter$Match" (53 : Nat) "CursorRewriter$Text" "size" "I" "CursorRewriter") ∈ kv_nl := List.mem_filter.mpr ⟨List.mem_of_getElem? (i := 128) (by decide +kernel), rfl⟩
theorem mw_129 : (Cond.fieldLinkNest "CursorRewriter" (86 : Nat) "CursorRewriter$Text" "size" "I" "CursorRewriter") ∈ kv_nl := List.mem_filter.mpr ⟨List.mem_of_getElem? (i := 129) (by decide +kernel), rfl⟩
theorem mw_130 : (Cond.fieldLink "CursorRewriter$Text" (22 : Nat) "CursorRewriter$Text" "place" "I") ∈ kv_tb := List.mem_filter.mpr ⟨List.mem_append_right _ (List.mem_of_getElem? (i := 130) (by decide +kernel)), rfl⟩
theorem mw_131 : (Cond.fieldLinkNest "CursorRewriter$Match" (25 : Nat) "CursorRewriter$Text" "place" "I" "CursorRewriter") ∈ kv_nl := List.mem_filter.mpr ⟨List.mem_of_getElem? (i := 131) (by decide +kernel), rfl⟩
theorem mw_132 : (Cond.fieldLinkNest "CursorRewriter" (93 : Nat) "CursorRewriter$Text" "place" "I" "CursorRewriter") ∈ kv_nl := List.mem_filter.mpr ⟨List.mem_of_getElem? (i := 132) (by decide +kernel), rfl⟩
theorem mw_142 : (Cond.classLink "CursorRewriter" (34 : Nat) "CursorRewriter$Match") ∈ kv_tb := List.mem_filter.mpr ⟨List.mem_append_right _ (List.mem_of_getElem? (i := 142) (by decide +kernel)), rfl⟩
theorem mw_143 : (Cond.instantiable "CursorRewriter$Match" (1 : Nat)) ∈ kv_tb := List.mem_filter.mpr ⟨List.mem_append_right _ (List.mem_of_getElem? (i := 143) (by decide +kernel)), rfl⟩
theorem mw_144 : (Cond.methodLinkNest "CursorRewriter" (36 : Nat) ({ cls := "CursorRewriter$Match", name := "<init>", desc := "()V" } : Jvm.MethodName) "CursorRewriter") ∈ kv_nl := List.mem_filter.mpr ⟨List.mem_of_getElem? (i := 144) (by decide +kernel), rfl⟩
theorem mw_145 : (Cond.instanceMethod ({ cls := "CursorRewriter$Match", name := "<init>", desc := "()V" } : Jvm.MethodName)) ∈ kv_tb := List.mem_filter.mpr ⟨List.mem_append_right _ (List.mem_of_getElem? (i := 145) (by decide +kernel)), rfl⟩
theorem mw_146 : (Cond.code ({ cls := "CursorRewriter$Match", name := "<init>", desc := "()V" } : Jvm.MethodName) prog_2_method_1_code (1 : Nat) (Option.none : Option Jvm.ClassFile.FieldType)) ∈ kv_tb := List.mem_filter.mpr ⟨List.mem_append_right _ (List.mem_of_getElem? (i := 146) (by decide +kernel)), rfl⟩
theorem mw_147 : (Cond.methodLink "CursorRewriter$Match" (3 : Nat) ({ cls := "java/lang/Object", name := "<init>", desc := "()V" } : Jvm.MethodName)) ∈ kv_tb := List.mem_filter.mpr ⟨List.mem_append_right _ (List.mem_of_getElem? (i := 147) (by decide +kernel)), rfl⟩
theorem mw_148 : (Cond.fieldLink "CursorRewriter$Match" (9 : Nat) "CursorRewriter$Match" "begins" "[I") ∈ kv_tb := List.mem_filter.mpr ⟨List.mem_append_right _ (List.mem_of_getElem? (i := 148) (by decide +kernel)), rfl⟩
theorem mw_149 : (Cond.fieldLinkNest "CursorRewriter$Text" (25 : Nat) "CursorRewriter$Match" "begins" "[I" "CursorRewriter") ∈ kv_nl := List.mem_filter.mpr ⟨List.mem_of_getElem? (i := 149) (by decide +kernel), rfl⟩
theorem mw_153 : (Cond.fieldLink "CursorRewriter" (12 : Nat) "CursorRewriter" "statement" "LCursorRewriter$Statement;") ∈ kv_tb := List.mem_filter.mpr ⟨List.mem_append_right _ (List.mem_of_getElem? (i := 153) (by decide +kernel)), rfl⟩
theorem mw_154 : (Cond.fieldLink "CursorRewriter" (18 : Nat) "CursorRewriter" "ruleRow" "[LCursorRewriter$Rule;") ∈ kv_tb := List.mem_filter.mpr ⟨List.mem_append_right _ (List.mem_of_getElem? (i := 154) (by decide +kernel)), rfl⟩
theorem mw_155 : (Cond.fieldLink "CursorRewriter" (23 : Nat) "CursorRewriter" "ruleCount" "I") ∈ kv_tb := List.mem_filter.mpr ⟨List.mem_append_right _ (List.mem_of_getElem? (i := 155) (by decide +kernel)), rfl⟩
theorem mw_156 : (Cond.fieldLink "CursorRewriter" (30 : Nat) "CursorRewriter" "text" "LCursorRewriter$Text;") ∈ kv_tb := List.mem_filter.mpr ⟨List.mem_append_right _ (List.mem_of_getElem? (i := 156) (by decide +kernel)), rfl⟩
theorem mw_157 : (Cond.fieldLink "CursorRewriter" (37 : Nat) "CursorRewriter" "match" "LCursorRewriter$Match;") ∈ kv_tb := List.mem_filter.mpr ⟨List.mem_append_right _ (List.mem_of_getElem? (i := 157) (by decide +kernel)), rfl⟩
theorem mw_158 : (Cond.fieldLink "CursorRewriter" (41 : Nat) "CursorRewriter" "appliedCount" "I") ∈ kv_tb := List.mem_filter.mpr ⟨List.mem_append_right _ (List.mem_of_getElem? (i := 158) (by decide +kernel)), rfl⟩
theorem mw_159 : (Cond.fieldLink "CursorRewriter" (44 : Nat) "CursorRewriter" "latestRule" "I") ∈ kv_tb := List.mem_filter.mpr ⟨List.mem_append_right _ (List.mem_of_getElem? (i := 159) (by decide +kernel)), rfl⟩
theorem mw_160 : (Cond.fieldLink "CursorRewriter" (47 : Nat) "CursorRewriter" "isStuck" "Z") ∈ kv_tb := List.mem_filter.mpr ⟨List.mem_append_right _ (List.mem_of_getElem? (i := 160) (by decide +kernel)), rfl⟩
theorem mw_178 : (Cond.methodLink "CursorRewriterLaw" (13 : Nat) ({ cls := "CursorRewriter", name := "code", desc := "(C)I" } : Jvm.MethodName)) ∈ kv_tb := List.mem_filter.mpr ⟨List.mem_append_right _ (List.mem_of_getElem? (i := 178) (by decide +kernel)), rfl⟩
theorem mw_179 : (Cond.instanceMethod ({ cls := "CursorRewriter", name := "code", desc := "(C)I" } : Jvm.MethodName)) ∈ kv_tb := List.mem_filter.mpr ⟨List.mem_append_right _ (List.mem_of_getElem? (i := 179) (by decide +kernel)), rfl⟩
theorem mw_180 : (Cond.selects "CursorRewriter" ({ cls := "CursorRewriter", name := "code", desc := "(C)I" } : Jvm.MethodName) ({ cls := "CursorRewriter", name := "code", desc := "(C)I" } : Jvm.MethodName)) ∈ kv_tb := List.mem_filter.mpr ⟨List.mem_append_right _ (List.mem_of_getElem? (i := 180) (by decide +kernel)), rfl⟩
theorem mw_181 : (Cond.code ({ cls := "CursorRewriter", name := "code", desc := "(C)I" } : Jvm.MethodName) prog_1_method_2_code (3 : Nat) (Option.some Jvm.ClassFile.FieldType.int)) ∈ kv_tb := List.mem_filter.mpr ⟨List.mem_append_right _ (List.mem_of_getElem? (i := 181) (by decide +kernel)), rfl⟩
theorem mw_182 : (Cond.methodLink "CursorRewriter" (51 : Nat) ({ cls := "CursorRewriter$Statement", name := "looksLikeDefinition", desc := "()Z" } : Jvm.MethodName)) ∈ kv_tb := List.mem_filter.mpr ⟨List.mem_append_right _ (List.mem_of_getElem? (i := 182) (by decide +kernel)), rfl⟩
theorem mw_183 : (Cond.instanceMethod ({ cls := "CursorRewriter$Statement", name := "looksLikeDefinition", desc := "()Z" } : Jvm.MethodName)) ∈ kv_tb := List.mem_filter.mpr ⟨List.mem_append_right _ (List.mem_of_getElem? (i := 183) (by decide +kernel)), rfl⟩
theorem mw_184 : (Cond.selects "CursorRewriter$Statement" ({ cls := "CursorRewriter$Statement", name := "looksLikeDefinition", desc := "()Z" } : Jvm.MethodName) ({ cls := "CursorRewriter$Statement", name := "looksLikeDefinition", desc := "()Z" } : Jvm.MethodName)) ∈ kv_tb := List.mem_filter.mpr ⟨List.mem_append_right _ (List.mem_of_getElem? (i := 184) (by decide +kernel)), rfl⟩
theorem mw_185 : (Cond.code ({ cls := "CursorRewriter$Statement", name := "looksLikeDefinition", desc := "()Z" } : Jvm.MethodName) prog_4_method_5_code (1 : Nat) (Option.some Jvm.ClassFile.FieldType.boolean)) ∈ kv_tb := List.mem_filter.mpr ⟨List.mem_append_right _ (List.mem_of_getElem? (i := 185) (by decide +kernel)), rfl⟩
theorem mw_186 : (Cond.methodLinkNest "CursorRewriter$Statement" (36 : Nat) ({ cls := "CursorRewriter", name := "isCapital", desc := "(C)Z" } : Jvm.MethodName) "CursorRewriter") ∈ kv_nl := List.mem_filter.mpr ⟨List.mem_of_getElem? (i := 186) (by decide +kernel), rfl⟩
theorem mw_187 : (Cond.static ({ cls := "CursorRewriter", name := "isCapital", desc := "(C)Z" } : Jvm.MethodName)) ∈ kv_tb := List.mem_filter.mpr ⟨List.mem_append_right _ (List.mem_of_getElem? (i := 187) (by decide +kernel)), rfl⟩
theorem mw_188 : (Cond.code ({ cls := "CursorRewriter", name := "isCapital", desc := "(C)Z" } : Jvm.MethodName) prog_1_method_23_code (1 : Nat) (Option.some Jvm.ClassFile.FieldType.boolean)) ∈ kv_tb := List.mem_filter.mpr ⟨List.mem_append_right _ (List.mem_of_getElem? (i := 188) (by decide +kernel)), rfl⟩
theorem mw_189 : (Cond.methodLink "CursorRewriter" (55 : Nat) ({ cls := "CursorRewriter", name := "endDefinition", desc := "()I" } : Jvm.MethodName)) ∈ kv_tb := List.mem_filter.mpr ⟨List.mem_append_right _ (List.mem_of_getElem? (i := 189) (by decide +kernel)), rfl⟩
theorem mw_191 : (Cond.instanceMethod ({ cls := "CursorRewriter", name := "endDefinition", desc := "()I" } : Jvm.MethodName)) ∈ kv_tb := List.mem_filter.mpr ⟨List.mem_append_right _ (List.mem_of_getElem? (i := 191) (by decide +kernel)), rfl⟩
theorem mw_192 : (Cond.code ({ cls := "CursorRewriter", name := "endDefinition", desc := "()I" } : Jvm.MethodName) prog_1_method_16_code (1 : Nat) (Option.some Jvm.ClassFile.FieldType.int)) ∈ kv_tb := List.mem_filter.mpr ⟨List.mem_append_right _ (List.mem_of_getElem? (i := 192) (by decide +kernel)), rfl⟩
theorem mw_193 : (Cond.methodLink "CursorRewriter" (100 : Nat) ({ cls := "CursorRewriter$Statement", name := "readDefinition", desc := "()Z" } : Jvm.MethodName)) ∈ kv_tb := List.mem_filter.mpr ⟨List.mem_append_right _ (List.mem_of_getElem? (i := 193) (by decide +kernel)), rfl⟩
theorem mw_194 : (Cond.instanceMethod ({ cls := "CursorRewriter$Statement", name := "readDefinition", desc := "()Z" } : Jvm.MethodName)) ∈ kv_tb := List.mem_filter.mpr ⟨List.mem_append_right _ (List.mem_of_getElem? (i := 194) (by decide +kernel)), rfl⟩
theorem mw_195 : (Cond.selects "CursorRewriter$Statement" ({ cls := "CursorRewriter$Statement", name := "readDefinition", desc := "()Z" } : Jvm.MethodName) ({ cls := "CursorRewriter$Statement", name := "readDefinition", desc := "()Z" } : Jvm.MethodName)) ∈ kv_tb := List.mem_filter.mpr ⟨List.mem_append_right _ (List.mem_of_getElem? (i := 195) (by decide +kernel)), rfl⟩
theorem mw_196 : (Cond.code ({ cls := "CursorRewriter$Statement", name := "readDefinition", desc := "()Z" } : Jvm.MethodName) prog_4_method_6_code (1 : Nat) (Option.some Jvm.ClassFile.FieldType.boolean)) ∈ kv_tb := List.mem_filter.mpr ⟨List.mem_append_right _ (List.mem_of_getElem? (i := 196) (by decide +kernel)), rfl⟩
theorem mw_197 : (Cond.methodLink "CursorRewriter$Statement" (40 : Nat) ({ cls := "CursorRewriter$Statement", name := "readElement", desc := "()Z" } : Jvm.MethodName)) ∈ kv_tb := List.mem_filter.mpr ⟨List.mem_append_right _ (List.mem_of_getElem? (i := 197) (by decide +kernel)), rfl⟩
theorem mw_199 : (Cond.instanceMethod ({ cls := "CursorRewriter$Statement", name := "readElement", desc := "()Z" } : Jvm.MethodName)) ∈ kv_tb := List.mem_filter.mpr ⟨List.mem_append_right _ (List.mem_of_getElem? (i := 199) (by decide +kernel)), rfl⟩
theorem mw_200 : (Cond.code ({ cls := "CursorRewriter$Statement", name := "readElement", desc := "()Z" } : Jvm.MethodName) prog_4_method_13_code (2 : Nat) (Option.some Jvm.ClassFile.FieldType.boolean)) ∈ kv_tb := List.mem_filter.mpr ⟨List.mem_append_right _ (List.mem_of_getElem? (i := 200) (by decide +kernel)), rfl⟩
theorem mw_201 : (Cond.methodLink "CursorRewriter$Statement" (71 : Nat) ({ cls := "CursorRewriter$Statement", name := "next", desc := "()C" } : Jvm.MethodName)) ∈ kv_tb := List.mem_filter.mpr ⟨List.mem_append_right _ (List.mem_of_getElem? (i := 201) (by decide +kernel)), rfl⟩
theorem mw_203 : (Cond.instanceMethod ({ cls := "CursorRewriter$Statement", name := "next", desc := "()C" } : Jvm.MethodName)) ∈ kv_tb := List.mem_filter.mpr ⟨List.mem_append_right _ (List.mem_of_getElem? (i := 203) (by decide +kernel)), rfl⟩
theorem mw_204 : (Cond.code ({ cls := "CursorRewriter$Statement", name := "next", desc := "()C" } : Jvm.MethodName) prog_4_method_16_code (1 : Nat) (Option.some Jvm.ClassFile.FieldType.char)) ∈ kv_tb := List.mem_filter.mpr ⟨List.mem_append_right _ (List.mem_of_getElem? (i := 204) (by decide +kernel)), rfl⟩
theorem mw_205 : (Cond.methodLinkNest "CursorRewriter$Statement" (95 : Nat) ({ cls := "CursorRewriter", name := "isSmall", desc := "(C)Z" } : Jvm.MethodName) "CursorRewriter") ∈ kv_nl := List.mem_filter.mpr ⟨List.mem_of_getElem? (i := 205) (by decide +kernel), rfl⟩
theorem mw_206 : (Cond.static ({ cls := "CursorRewriter", name := "isSmall", desc := "(C)Z" } : Jvm.MethodName)) ∈ kv_tb := List.mem_filter.mpr ⟨List.mem_append_right _ (List.mem_of_getElem? (i := 206) (by decide +kernel)), rfl⟩
theorem mw_207 : (Cond.code ({ cls := "CursorRewriter", name := "isSmall", desc := "(C)Z" } : Jvm.MethodName) prog_1_method_22_code (1 : Nat) (Option.some Jvm.ClassFile.FieldType.boolean)) ∈ kv_tb := List.mem_filter.mpr ⟨List.mem_append_right _ (List.mem_of_getElem? (i := 207) (by decide +kernel)), rfl⟩
theorem mw_208 : (Cond.methodLink "CursorRewriter$Statement" (102 : Nat) ({ cls := "CursorRewriter$Statement", name := "lettersFromTo", desc := "(CC)I" } : Jvm.MethodName)) ∈ kv_tb := List.mem_filter.mpr ⟨List.mem_append_right _ (List.mem_of_getElem? (i := 208) (by decide +kernel)), rfl⟩
theorem mw_209 : (Cond.static ({ cls := "CursorRewriter$Statement", name := "lettersFromTo", desc := "(CC)I" } : Jvm.MethodName)) ∈ kv_tb := List.mem_filter.mpr ⟨List.mem_append_right _ (List.mem_of_getElem? (i := 209) (by decide +kernel)), rfl⟩
theorem mw_210 : (Cond.code ({ cls := "CursorRewriter$Statement", name := "lettersFromTo", desc := "(CC)I" } : Jvm.MethodName) prog_4_method_19_code (2 : Nat) (Option.some Jvm.ClassFile.FieldType.int)) ∈ kv_tb := List.mem_filter.mpr ⟨List.mem_append_right _ (List.mem_of_getElem? (i := 210) (by decide +kernel)), rfl⟩
theorem mw_211 : (Cond.constant "CursorRewriter$Statement" (106 : Nat) (67108863 : Int32)) ∈ kv_tb := List.mem_filter.mpr ⟨List.mem_append_right _ (List.mem_of_getElem? (i := 211) (by decide +kernel)), rfl⟩
theorem mw_212 : (Cond.methodLink "CursorRewriter$Statement" (107 : Nat) ({ cls := "CursorRewriter$Statement", name := "readBrackets", desc := "()Z" } : Jvm.MethodName)) ∈ kv_tb := List.mem_filter.mpr ⟨List.mem_append_right _ (List.mem_of_getElem? (i := 212) (by decide +kernel)), rfl⟩
theorem mw_214 : (Cond.instanceMethod ({ cls := "CursorRewriter$Statement", name := "readBrackets", desc := "()Z" } : Jvm.MethodName)) ∈ kv_tb := List.mem_filter.mpr ⟨List.mem_append_right _ (List.mem_of_getElem? (i := 214) (by decide +kernel)), rfl⟩
theorem mw_215 : (Cond.code ({ cls := "CursorRewriter$Statement", name := "readBrackets", desc := "()Z" } : Jvm.MethodName) prog_4_method_14_code (6 : Nat) (Option.some Jvm.ClassFile.FieldType.boolean)) ∈ kv_tb := List.mem_filter.mpr ⟨List.mem_append_right _ (List.mem_of_getElem? (i := 215) (by decide +kernel)), rfl⟩
theorem mw_216 : (Cond.methodLink "CursorRewriter$Statement" (51 : Nat) ({ cls := "CursorRewriter$Statement", name := "skip", desc := "(C)Z" } : Jvm.MethodName)) ∈ kv_tb := List.mem_filter.mpr ⟨List.mem_append_right _ (List.mem_of_getElem? (i := 216) (by decide +kernel)), rfl⟩
theorem mw_218 : (Cond.instanceMethod ({ cls := "CursorRewriter$Statement", name := "skip", desc := "(C)Z" } : Jvm.MethodName)) ∈ kv_tb := List.mem_filter.mpr ⟨List.mem_append_right _ (List.mem_of_getElem? (i := 218) (by decide +kernel)), rfl⟩
theorem mw_219 : (Cond.code ({ cls := "CursorRewriter$Statement", name := "skip", desc := "(C)Z" } : Jvm.MethodName) prog_4_method_17_code (2 : Nat) (Option.some Jvm.ClassFile.FieldType.boolean)) ∈ kv_tb := List.mem_filter.mpr ⟨List.mem_append_right _ (List.mem_of_getElem? (i := 219) (by decide +kernel)), rfl⟩
theorem mw_220 : (Cond.methodLink "CursorRewriter" (106 : Nat) ({ cls := "CursorRewriter$Statement", name := "define", desc := "()V" } : Jvm.MethodName)) ∈ kv_tb := List.mem_filter.mpr ⟨List.mem_append_right _ (List.mem_of_getElem? (i := 220) (by decide +kernel)), rfl⟩
theorem mw_221 : (Cond.instanceMethod ({ cls := "CursorRewriter$Statement", name := "define", desc := "()V" } : Jvm.MethodName)) ∈ kv_tb := List.mem_filter.mpr ⟨List.mem_append_right _ (List.mem_of_getElem? (i := 221) (by decide +kernel)), rfl⟩
theorem mw_222 : (Cond.selects "CursorRewriter$Statement" ({ cls := "CursorRewriter$Statement", name := "define", desc := "()V" } : Jvm.MethodName) ({ cls := "CursorRewriter$Statement", name := "define", desc := "()V" } : Jvm.MethodName)) ∈ kv_tb := List.mem_filter.mpr ⟨List.mem_append_right _ (List.mem_of_getElem? (i := 222) (by decide +kernel)), rfl⟩
theorem mw_223 : (Cond.code ({ cls := "CursorRewriter$Statement", name := "define", desc := "()V" } : Jvm.MethodName) prog_4_method_7_code (1 : Nat) (Option.none : Option Jvm.ClassFile.FieldType)) ∈ kv_tb := List.mem_filter.mpr ⟨List.mem_append_right _ (List.mem_of_getElem? (i := 223) (by decide +kernel)), rfl⟩
theorem mw_224 : (Cond.methodLink "CursorRewriter" (59 : Nat) ({ cls := "CursorRewriter", name := "endRule", desc := "()I" } : Jvm.MethodName)) ∈ kv_tb := List.mem_filter.mpr ⟨List.mem_append_right _ (List.mem_of_getElem? (i := 224) (by decide +kernel)), rfl⟩
theorem mw_226 : (Cond.instanceMethod ({ cls := "CursorRewriter", name := "endRule", desc := "()I" } : Jvm.MethodName)) ∈ kv_tb := List.mem_filter.mpr ⟨List.mem_append_right _ (List.mem_of_getElem? (i := 226) (by decide +kernel)), rfl⟩
theorem mw_227 : (Cond.code ({ cls := "CursorRewriter", name := "endRule", desc := "()I" } : Jvm.MethodName) prog_1_method_17_code (2 : Nat) (Option.some Jvm.ClassFile.FieldType.int)) ∈ kv_tb := List.mem_filter.mpr ⟨List.mem_append_right _ (List.mem_of_getElem? (i := 227) (by decide +kernel)), rfl⟩
theorem mw_228 : (Cond.methodLink "CursorRewriter" (109 : Nat) ({ cls := "CursorRewriter$Rule", name := "clear", desc := "()V" } : Jvm.MethodName)) ∈ kv_tb := List.mem_filter.mpr ⟨List.mem_append_right _ (List.mem_of_getElem? (i := 228) (by decide +kernel)), rfl⟩
theorem mw_229 : (Cond.instanceMethod ({ cls := "CursorRewriter$Rule", name := "clear", desc := "()V" } : Jvm.MethodName)) ∈ kv_tb := List.mem_filter.mpr ⟨List.mem_append_right _ (List.mem_of_getElem? (i := 229) (by decide +kernel)), rfl⟩
theorem mw_230 : (Cond.selects "CursorRewriter$Rule" ({ cls := "CursorRewriter$Rule", name := "clear", desc := "()V" } : Jvm.MethodName) ({ cls := "CursorRewriter$Rule", name := "clear", desc := "()V" } : Jvm.MethodName)) ∈ kv_tb := List.mem_filter.mpr ⟨List.mem_append_right _ (List.mem_of_getElem? (i := 230) (by decide +kernel)), rfl⟩
theorem mw_231 : (Cond.code ({ cls := "CursorRewriter$Rule", name := "clear", desc := "()V" } : Jvm.MethodName) prog_3_method_2_code (1 : Nat) (Option.none : Option Jvm.ClassFile.FieldType)) ∈ kv_tb := List.mem_filter.mpr ⟨List.mem_append_right _ (List.mem_of_getElem? (i := 231) (by decide +kernel)), rfl⟩
theorem mw_232 : (Cond.methodLink "CursorRewriter" (110 : Nat) ({ cls := "CursorRewriter$Statement", name := "readRule", desc := "(LCursorRewriter$Rule;)Z" } : Jvm.MethodName)) ∈ kv_tb := List.mem_filter.mpr ⟨List.mem_append_right _ (List.mem_of_getElem? (i := 232) (by decide +kernel)), rfl⟩
theorem mw_233 : (Cond.instanceMethod ({ cls := "CursorRewriter$Statement", name := "readRule", desc := "(LCursorRewriter$Rule;)Z" } : Jvm.MethodName)) ∈ kv_tb := List.mem_filter.mpr ⟨List.mem_append_right _ (List.mem_of_getElem? (i := 233) (by decide +kernel)), rfl⟩
theorem mw_234 : (Cond.selects "CursorRewriter$Statement" ({ cls := "CursorRewriter$Statement", name := "readRule", desc := "(LCursorRewriter$Rule;)Z" } : Jvm.MethodName) ({ cls := "CursorRewriter$Statement", name := "readRule", desc := "(LCursorRewriter$Rule;)Z" } : Jvm.MethodName)) ∈ kv_tb := List.mem_filter.mpr ⟨List.mem_append_right _ (List.mem_of_getElem? (i := 234) (by decide +kernel)), rfl⟩
theorem mw_235 : (Cond.code ({ cls := "CursorRewriter$Statement", name := "readRule", desc := "(LCursorRewriter$Rule;)Z" } : Jvm.MethodName) prog_4_method_8_code (2 : Nat) (Option.some Jvm.ClassFile.FieldType.boolean)) ∈ kv_tb := List.mem_filter.mpr ⟨List.mem_append_right _ (List.mem_of_getElem? (i := 235) (by decide +kernel)), rfl⟩
theorem mw_236 : (Cond.methodLink "CursorRewriter$Statement" (44 : Nat) ({ cls := "CursorRewriter$Statement", name := "hasOpeningBrace", desc := "()Z" } : Jvm.MethodName)) ∈ kv_tb := List.mem_filter.mpr ⟨List.mem_append_right _ (List.mem_of_getElem? (i := 236) (by decide +kernel)), rfl⟩
theorem mw_238 : (Cond.instanceMethod ({ cls := "CursorRewriter$Statement", name := "hasOpeningBrace", desc := "()Z" } : Jvm.MethodName)) ∈ kv_tb := List.mem_filter.mpr ⟨List.mem_append_right _ (List.mem_of_getElem? (i := 238) (by decide +kernel)), rfl⟩
theorem mw_239 : (Cond.code ({ cls := "CursorRewriter$Statement", name := "hasOpeningBrace", desc := "()Z" } : Jvm.MethodName) prog_4_method_9_code (2 : Nat) (Option.some Jvm.ClassFile.FieldType.boolean)) ∈ kv_tb := List.mem_filter.mpr ⟨List.mem_append_right _ (List.mem_of_getElem? (i := 239) (by decide +kernel)), rfl⟩
theorem mw_240 : (Cond.methodLink "CursorRewriter$Statement" (47 : Nat) ({ cls := "CursorRewriter$Statement", name := "readContext", desc := "(LCursorRewriter$Rule;)Z" } : Jvm.MethodName)) ∈ kv_tb := List.mem_filter.mpr ⟨List.mem_append_right _ (List.mem_of_getElem? (i := 240) (by decide +kernel)), rfl⟩
theorem mw_242 : (Cond.instanceMethod ({ cls := "CursorRewriter$Statement", name := "readContext", desc := "(LCursorRewriter$Rule;)Z" } : Jvm.MethodName)) ∈ kv_tb := List.mem_filter.mpr ⟨List.mem_append_right _ (List.mem_of_getElem? (i := 242) (by decide +kernel)), rfl⟩
theorem mw_243 : (Cond.code ({ cls := "CursorRewriter$Statement", name := "readContext", desc := "(LCursorRewriter$Rule;)Z" } : Jvm.MethodName) prog_4_method_10_code (3 : Nat) (Option.some Jvm.ClassFile.FieldType.boolean)) ∈ kv_tb := List.mem_filter.mpr ⟨List.mem_append_right _ (List.mem_of_getElem? (i := 243) (by decide +kernel)), rfl⟩
theorem mw_244 : (Cond.methodLink "CursorRewriter$Statement" (75 : Nat) ({ cls := "CursorRewriter$Statement", name := "beginsElement", desc := "(C)Z" } : Jvm.MethodName)) ∈ kv_tb := List.mem_filter.mpr ⟨List.mem_append_right _ (List.mem_of_getElem? (i := 244) (by decide +kernel)), rfl⟩
theorem mw_245 : (Cond.static ({ cls := "CursorRewriter$Statement", name := "beginsElement", desc := "(C)Z" } : Jvm.MethodName)) ∈ kv_tb := List.mem_filter.mpr ⟨List.mem_append_right _ (List.mem_of_getElem? (i := 245) (by decide +kernel)), rfl⟩
theorem mw_246 : (Cond.code ({ cls := "CursorRewriter$Statement", name := "beginsElement", desc := "(C)Z" } : Jvm.MethodName) prog_4_method_18_code (1 : Nat) (Option.some Jvm.ClassFile.FieldType.boolean)) ∈ kv_tb := List.mem_filter.mpr ⟨List.mem_append_right _ (List.mem_of_getElem? (i := 246) (by decide +kernel)), rfl⟩
theorem mw_247 : (Cond.methodLink "CursorRewriter$Statement" (78 : Nat) ({ cls := "CursorRewriter$Statement", name := "readQuantifier", desc := "()C" } : Jvm.MethodName)) ∈ kv_tb := List.mem_filter.mpr ⟨List.mem_append_right _ (List.mem_of_getElem? (i := 247) (by decide +kernel)), rfl⟩
theorem mw_249 : (Cond.instanceMethod ({ cls := "CursorRewriter$Statement", name := "readQuantifier", desc := "()C" } : Jvm.MethodName)) ∈ kv_tb := List.mem_filter.mpr ⟨List.mem_append_right _ (List.mem_of_getElem? (i := 249) (by decide +kernel)), rfl⟩
theorem mw_250 : (Cond.code ({ cls := "CursorRewriter$Statement", name := "readQuantifier", desc := "()C" } : Jvm.MethodName) prog_4_method_15_code (2 : Nat) (Option.some Jvm.ClassFile.FieldType.char)) ∈ kv_tb := List.mem_filter.mpr ⟨List.mem_append_right _ (List.mem_of_getElem? (i := 250) (by decide +kernel)), rfl⟩
theorem mw_251 : (Cond.methodLink "CursorRewriter$Statement" (81 : Nat) ({ cls := "CursorRewriter$Rule", name := "addElement", desc := "(IC)V" } : Jvm.MethodName)) ∈ kv_tb := List.mem_filter.mpr ⟨List.mem_append_right _ (List.mem_of_getElem? (i := 251) (by decide +kernel)), rfl⟩
theorem mw_252 : (Cond.instanceMethod ({ cls := "CursorRewriter$Rule", name := "addElement", desc := "(IC)V" } : Jvm.MethodName)) ∈ kv_tb := List.mem_filter.mpr ⟨List.mem_append_right _ (List.mem_of_getElem? (i := 252) (by decide +kernel)), rfl⟩
theorem mw_253 : (Cond.selects "CursorRewriter$Rule" ({ cls := "CursorRewriter$Rule", name := "addElement", desc := "(IC)V" } : Jvm.MethodName) ({ cls := "CursorRewriter$Rule", name := "addElement", desc := "(IC)V" } : Jvm.MethodName)) ∈ kv_tb := List.mem_filter.mpr ⟨List.mem_append_right _ (List.mem_of_getElem? (i := 253) (by decide +kernel)), rfl⟩
theorem mw_254 : (Cond.code ({ cls := "CursorRewriter$Rule", name := "addElement", desc := "(IC)V" } : Jvm.MethodName) prog_3_method_3_code (5 : Nat) (Option.none : Option Jvm.ClassFile.FieldType)) ∈ kv_tb := List.mem_filter.mpr ⟨List.mem_append_right _ (List.mem_of_getElem? (i := 254) (by decide +kernel)), rfl⟩
theorem mw_255 : (Cond.methodLink "CursorRewriter$Statement" (62 : Nat) ({ cls := "CursorRewriter$Statement", name := "readKey", desc := "(LCursorRewriter$Rule;)Z" } : Jvm.MethodName)) ∈ kv_tb := List.mem_filter.mpr ⟨List.mem_append_right _ (List.mem_of_getElem? (i := 255) (by decide +kernel)), rfl⟩
theorem mw_257 : (Cond.instanceMethod ({ cls := "CursorRewriter$Statement", name := "readKey", desc := "(LCursorRewriter$Rule;)Z" } : Jvm.MethodName)) ∈ kv_tb := List.mem_filter.mpr ⟨List.mem_append_right _ (List.mem_of_getElem? (i := 257) (by decide +kernel)), rfl⟩
theorem mw_258 : (Cond.code ({ cls := "CursorRewriter$Statement", name := "readKey", desc := "(LCursorRewriter$Rule;)Z" } : Jvm.MethodName) prog_4_method_11_code (5 : Nat) (Option.some Jvm.ClassFile.FieldType.boolean)) ∈ kv_tb := List.mem_filter.mpr ⟨List.mem_append_right _ (List.mem_of_getElem? (i := 258) (by decide +kernel)), rfl⟩
theorem mw_259 : (Cond.methodLink "CursorRewriter$Statement" (85 : Nat) ({ cls := "CursorRewriter$Rule", name := "addSegment", desc := "(I)V" } : Jvm.MethodName)) ∈ kv_tb := List.mem_filter.mpr ⟨List.mem_append_right _ (List.mem_of_getElem? (i := 259) (by decide +kernel)), rfl⟩
theorem mw_260 : (Cond.instanceMethod ({ cls := "CursorRewriter$Rule", name := "addSegment", desc := "(I)V" } : Jvm.MethodName)) ∈ kv_tb := List.mem_filter.mpr ⟨List.mem_append_right _ (List.mem_of_getElem? (i := 260) (by decide +kernel)), rfl⟩
theorem mw_261 : (Cond.selects "CursorRewriter$Rule" ({ cls := "CursorRewriter$Rule", name := "addSegment", desc := "(I)V" } : Jvm.MethodName) ({ cls := "CursorRewriter$Rule", name := "addSegment", desc := "(I)V" } : Jvm.MethodName)) ∈ kv_tb := List.mem_filter.mpr ⟨List.mem_append_right _ (List.mem_of_getElem? (i := 261) (by decide +kernel)), rfl⟩
theorem mw_262 : (Cond.code ({ cls := "CursorRewriter$Rule", name := "addSegment", desc := "(I)V" } : Jvm.MethodName) prog_3_method_4_code (2 : Nat) (Option.none : Option Jvm.ClassFile.FieldType)) ∈ kv_tb := List.mem_filter.mpr ⟨List.mem_append_right _ (List.mem_of_getElem? (i := 262) (by decide +kernel)), rfl⟩
theorem mw_263 : (Cond.methodLink "CursorRewriter$Statement" (68 : Nat) ({ cls := "CursorRewriter$Statement", name := "readReplacement", desc := "(LCursorRewriter$Rule;)Z" } : Jvm.MethodName)) ∈ kv_tb := List.mem_filter.mpr ⟨List.mem_append_right _ (List.mem_of_getElem? (i := 263) (by decide +kernel)), rfl⟩
theorem mw_265 : (Cond.instanceMethod ({ cls := "CursorRewriter$Statement", name := "readReplacement", desc := "(LCursorRewriter$Rule;)Z" } : Jvm.MethodName)) ∈ kv_tb := List.mem_filter.mpr ⟨List.mem_append_right _ (List.mem_of_getElem? (i := 265) (by decide +kernel)), rfl⟩
theorem mw_266 : (Cond.code ({ cls := "CursorRewriter$Statement", name := "readReplacement", desc := "(LCursorRewriter$Rule;)Z" } : Jvm.MethodName) prog_4_method_12_code (4 : Nat) (Option.some Jvm.ClassFile.FieldType.boolean)) ∈ kv_tb := List.mem_filter.mpr ⟨List.mem_append_right _ (List.mem_of_getElem? (i := 266) (by decide +kernel)), rfl⟩
theorem mw_267 : (Cond.methodLink "CursorRewriter$Statement" (98 : Nat) ({ cls := "CursorRewriter$Rule", name := "addPiece", desc := "(C)V" } : Jvm.MethodName)) ∈ kv_tb := List.mem_filter.mpr ⟨List.mem_append_right _ (List.mem_of_getElem? (i := 267) (by decide +kernel)), rfl⟩
theorem mw_268 : (Cond.instanceMethod ({ cls := "CursorRewriter$Rule", name := "addPiece", desc := "(C)V" } : Jvm.MethodName)) ∈ kv_tb := List.mem_filter.mpr ⟨List.mem_append_right _ (List.mem_of_getElem? (i := 268) (by decide +kernel)), rfl⟩
theorem mw_269 : (Cond.selects "CursorRewriter$Rule" ({ cls := "CursorRewriter$Rule", name := "addPiece", desc := "(C)V" } : Jvm.MethodName) ({ cls := "CursorRewriter$Rule", name := "addPiece", desc := "(C)V" } : Jvm.MethodName)) ∈ kv_tb := List.mem_filter.mpr ⟨List.mem_append_right _ (List.mem_of_getElem? (i := 269) (by decide +kernel)), rfl⟩
theorem mw_270 : (Cond.code ({ cls := "CursorRewriter$Rule", name := "addPiece", desc := "(C)V" } : Jvm.MethodName) prog_3_method_5_code (2 : Nat) (Option.none : Option Jvm.ClassFile.FieldType)) ∈ kv_tb := List.mem_filter.mpr ⟨List.mem_append_right _ (List.mem_of_getElem? (i := 270) (by decide +kernel)), rfl⟩
theorem mw_271 : (Cond.methodLinkNest "CursorRewriter$Rule" (57 : Nat) ({ cls := "CursorRewriter", name := "isSmall", desc := "(C)Z" } : Jvm.MethodName) "CursorRewriter") ∈ kv_nl := List.mem_filter.mpr ⟨List.mem_of_getElem? (i := 271) (by decide +kernel), rfl⟩
theorem mw_272 : (Cond.methodLink "CursorRewriter$Rule" (61 : Nat) ({ cls := "java/lang/Math", name := "max", desc := "(II)I" } : Jvm.MethodName)) ∈ kv_tb := List.mem_filter.mpr ⟨List.mem_append_right _ (List.mem_of_getElem? (i := 272) (by decide +kernel)), rfl⟩
theorem mw_273 : (Cond.static ({ cls := "java/lang/Math", name := "max", desc := "(II)I" } : Jvm.MethodName)) ∈ kv_tb := List.mem_filter.mpr ⟨List.mem_append_right _ (List.mem_of_getElem? (i := 273) (by decide +kernel)), rfl⟩
theorem mw_274 : (Cond.code ({ cls := "java/lang/Math", name := "max", desc := "(II)I" } : Jvm.MethodName) prog_8_method_65_code (2 : Nat) (Option.some Jvm.ClassFile.FieldType.int)) ∈ kv_tb := List.mem_filter.mpr ⟨List.mem_append_right _ (List.mem_of_getElem? (i := 274) (by decide +kernel)), rfl⟩
theorem mw_275 : (Cond.methodLink "CursorRewriter" (120 : Nat) ({ cls := "CursorRewriter$Rule", name := "isTooLarge", desc := "()Z" } : Jvm.MethodName)) ∈ kv_tb := List.mem_filter.mpr ⟨List.mem_append_right _ (List.mem_of_getElem? (i := 275) (by decide +kernel)), rfl⟩
theorem mw_276 : (Cond.instanceMethod ({ cls := "CursorRewriter$Rule", name := "isTooLarge", desc := "()Z" } : Jvm.MethodName)) ∈ kv_tb := List.mem_filter.mpr ⟨List.mem_append_right _ (List.mem_of_getElem? (i := 276) (by decide +kernel)), rfl⟩
theorem mw_277 : (Cond.selects "CursorRewriter$Rule" ({ cls := "CursorRewriter$Rule", name := "isTooLarge", desc := "()Z" } : Jvm.MethodName) ({ cls := "CursorRewriter$Rule", name := "isTooLarge", desc := "()Z" } : Jvm.MethodName)) ∈ kv_tb := List.mem_filter.mpr ⟨List.mem_append_right _ (List.mem_of_getElem? (i := 277) (by decide +kernel)), rfl⟩
theorem mw_278 : (Cond.code ({ cls := "CursorRewriter$Rule", name := "isTooLarge", desc := "()Z" } : Jvm.MethodName) prog_3_method_6_code (1 : Nat) (Option.some Jvm.ClassFile.FieldType.boolean)) ∈ kv_tb := List.mem_filter.mpr ⟨List.mem_append_right _ (List.mem_of_getElem? (i := 278) (by decide +kernel)), rfl⟩
theorem mw_279 : (Cond.methodLink "CursorRewriter" (123 : Nat) ({ cls := "CursorRewriter", name := "isMasked", desc := "(LCursorRewriter$Rule;)Z" } : Jvm.MethodName)) ∈ kv_tb := List.mem_filter.mpr ⟨List.mem_append_right _ (List.mem_of_getElem? (i := 279) (by decide +kernel)), rfl⟩
theorem mw_281 : (Cond.instanceMethod ({ cls := "CursorRewriter", name := "isMasked", desc := "(LCursorRewriter$Rule;)Z" } : Jvm.MethodName)) ∈ kv_tb := List.mem_filter.mpr ⟨List.mem_append_right _ (List.mem_of_getElem? (i := 281) (by decide +kernel)), rfl⟩
theorem mw_282 : (Cond.code ({ cls := "CursorRewriter", name := "isMasked", desc := "(LCursorRewriter$Rule;)Z" } : Jvm.MethodName) prog_1_method_18_code (3 : Nat) (Option.some Jvm.ClassFile.FieldType.boolean)) ∈ kv_tb := List.mem_filter.mpr ⟨List.mem_append_right _ (List.mem_of_getElem? (i := 282) (by decide +kernel)), rfl⟩
theorem mw_283 : (Cond.methodLink "CursorRewriter" (126 : Nat) ({ cls := "CursorRewriter$Rule", name := "masks", desc := "(LCursorRewriter$Rule;)Z" } : Jvm.MethodName)) ∈ kv_tb := List.mem_filter.mpr ⟨List.mem_append_right _ (List.mem_of_getElem? (i := 283) (by decide +kernel)), rfl⟩
theorem mw_284 : (Cond.instanceMethod ({ cls := "CursorRewriter$Rule", name := "masks", desc := "(LCursorRewriter$Rule;)Z" } : Jvm.MethodName)) ∈ kv_tb := List.mem_filter.mpr ⟨List.mem_append_right _ (List.mem_of_getElem? (i := 284) (by decide +kernel)), rfl⟩
theorem mw_285 : (Cond.selects "CursorRewriter$Rule" ({ cls := "CursorRewriter$Rule", name := "masks", desc := "(LCursorRewriter$Rule;)Z" } : Jvm.MethodName) ({ cls := "CursorRewriter$Rule", name := "masks", desc := "(LCursorRewriter$Rule;)Z" } : Jvm.MethodName)) ∈ kv_tb := List.mem_filter.mpr ⟨List.mem_append_right _ (List.mem_of_getElem? (i := 285) (by decide +kernel)), rfl⟩
theorem mw_286 : (Cond.code ({ cls := "CursorRewriter$Rule", name := "masks", desc := "(LCursorRewriter$Rule;)Z" } : Jvm.MethodName) prog_3_method_7_code (4 : Nat) (Option.some Jvm.ClassFile.FieldType.boolean)) ∈ kv_tb := List.mem_filter.mpr ⟨List.mem_append_right _ (List.mem_of_getElem? (i := 286) (by decide +kernel)), rfl⟩
theorem mw_287 : (Cond.methodLink "CursorRewriter" (62 : Nat) ({ cls := "CursorRewriter$Statement", name := "clear", desc := "()V" } : Jvm.MethodName)) ∈ kv_tb := List.mem_filter.mpr ⟨List.mem_append_right _ (List.mem_of_getElem? (i := 287) (by decide +kernel)), rfl⟩
theorem mw_288 : (Cond.instanceMethod ({ cls := "CursorRewriter$Statement", name := "clear", desc := "()V" } : Jvm.MethodName)) ∈ kv_tb := List.mem_filter.mpr ⟨List.mem_append_right _ (List.mem_of_getElem? (i := 288) (by decide +kernel)), rfl⟩
theorem mw_289 : (Cond.selects "CursorRewriter$Statement" ({ cls := "CursorRewriter$Statement", name := "clear", desc := "()V" } : Jvm.MethodName) ({ cls := "CursorRewriter$Statement", name := "clear", desc := "()V" } : Jvm.MethodName)) ∈ kv_tb := List.mem_filter.mpr ⟨List.mem_append_right _ (List.mem_of_getElem? (i := 289) (by decide +kernel)), rfl⟩
theorem mw_290 : (Cond.code ({ cls := "CursorRewriter$Statement", name := "clear", desc := "()V" } : Jvm.MethodName) prog_4_method_2_code (1 : Nat) (Option.none : Option Jvm.ClassFile.FieldType)) ∈ kv_tb := List.mem_filter.mpr ⟨List.mem_append_right _ (List.mem_of_getElem? (i := 290) (by decide +kernel)), rfl⟩
theorem mw_291 : (Cond.methodLink "CursorRewriter" (65 : Nat) ({ cls := "CursorRewriter$Statement", name := "type", desc := "(C)Z" } : Jvm.MethodName)) ∈ kv_tb := List.mem_filter.mpr ⟨List.mem_append_right _ (List.mem_of_getElem? (i := 291) (by decide +kernel)), rfl⟩
theorem mw_292 : (Cond.instanceMethod ({ cls := "CursorRewriter$Statement", name := "type", desc := "(C)Z" } : Jvm.MethodName)) ∈ kv_tb := List.mem_filter.mpr ⟨List.mem_append_right _ (List.mem_of_getElem? (i := 292) (by decide +kernel)), rfl⟩
theorem mw_293 : (Cond.selects "CursorRewriter$Statement" ({ cls := "CursorRewriter$Statement", name := "type", desc := "(C)Z" } : Jvm.MethodName) ({ cls := "CursorRewriter$Statement", name := "type", desc := "(C)Z" } : Jvm.MethodName)) ∈ kv_tb := List.mem_filter.mpr ⟨List.mem_append_right _ (List.mem_of_getElem? (i := 293) (by decide +kernel)), rfl⟩
theorem mw_294 : (Cond.code ({ cls := "CursorRewriter$Statement", name := "type", desc := "(C)Z" } : Jvm.MethodName) prog_4_method_4_code (2 : Nat) (Option.some Jvm.ClassFile.FieldType.boolean)) ∈ kv_tb := List.mem_filter.mpr ⟨List.mem_append_right _ (List.mem_of_getElem? (i := 294) (by decide +kernel)), rfl⟩
theorem mw_295 : (Cond.methodLink "CursorRewriterLaw" (18 : Nat) ({ cls := "CursorRewriter", name := "rules", desc := "()I" } : Jvm.MethodName)) ∈ kv_tb := List.mem_filter.mpr ⟨List.mem_append_right _ (List.mem_of_getElem? (i := 295) (by decide +kernel)), rfl⟩
theorem mw_296 : (Cond.instanceMethod ({ cls := "CursorRewriter", name := "rules", desc := "()I" } : Jvm.MethodName)) ∈ kv_tb := List.mem_filter.mpr ⟨List.mem_append_right _ (List.mem_of_getElem? (i := 296) (by decide +kernel)), rfl⟩
theorem mw_297 : (Cond.selects "CursorRewriter" ({ cls := "CursorRewriter", name := "rules", desc := "()I" } : Jvm.MethodName) ({ cls := "CursorRewriter", name := "rules", desc := "()I" } : Jvm.MethodName)) ∈ kv_tb := List.mem_filter.mpr ⟨List.mem_append_right _ (List.mem_of_getElem? (i := 297) (by decide +kernel)), rfl⟩
theorem mw_298 : (Cond.code ({ cls := "CursorRewriter", name := "rules", desc := "()I" } : Jvm.MethodName) prog_1_method_3_code (1 : Nat) (Option.some Jvm.ClassFile.FieldType.int)) ∈ kv_tb := List.mem_filter.mpr ⟨List.mem_append_right _ (List.mem_of_getElem? (i := 298) (by decide +kernel)), rfl⟩
theorem mw_299 : (Cond.methodLink "CursorRewriterLaw" (23 : Nat) ({ cls := "CursorRewriter", name := "forget", desc := "()V" } : Jvm.MethodName)) ∈ kv_tb := List.mem_filter.mpr ⟨List.mem_append_right _ (List.mem_of_getElem? (i := 299) (by decide +kernel)), rfl⟩
theorem mw_300 : (Cond.instanceMethod ({ cls := "CursorRewriter", name := "forget", desc := "()V" } : Jvm.MethodName)) ∈ kv_tb := List.mem_filter.mpr ⟨List.mem_append_right _ (List.mem_of_getElem? (i := 300) (by decide +kernel)), rfl⟩
theorem mw_301 : (Cond.selects "CursorRewriter" ({ cls := "CursorRewriter", name := "forget", desc := "()V" } : Jvm.MethodName) ({ cls := "CursorRewriter", name := "forget", desc := "()V" } : Jvm.MethodName)) ∈ kv_tb := List.mem_filter.mpr ⟨List.mem_append_right _ (List.mem_of_getElem? (i := 301) (by decide +kernel)), rfl⟩
theorem mw_302 : (Cond.code ({ cls := "CursorRewriter", name := "forget", desc := "()V" } : Jvm.MethodName) prog_1_method_4_code (1 : Nat) (Option.none : Option Jvm.ClassFile.FieldType)) ∈ kv_tb := List.mem_filter.mpr ⟨List.mem_append_right _ (List.mem_of_getElem? (i := 302) (by decide +kernel)), rfl⟩
theorem mw_303 : (Cond.methodLink "CursorRewriter" (69 : Nat) ({ cls := "CursorRewriter$Statement", name := "clearMeanings", desc := "()V" } : Jvm.MethodName)) ∈ kv_tb := List.mem_filter.mpr ⟨List.mem_append_right _ (List.mem_of_getElem? (i := 303) (by decide +kernel)), rfl⟩
theorem mw_304 : (Cond.methodLink "CursorRewriter" (72 : Nat) ({ cls := "CursorRewriter", name := "restart", desc := "()V" } : Jvm.MethodName)) ∈ kv_tb := List.mem_filter.mpr ⟨List.mem_append_right _ (List.mem_of_getElem? (i := 304) (by decide +kernel)), rfl⟩
theorem mw_305 : (Cond.instanceMethod ({ cls := "CursorRewriter", name := "restart", desc := "()V" } : Jvm.MethodName)) ∈ kv_tb := List.mem_filter.mpr ⟨List.mem_append_right _ (List.mem_of_getElem? (i := 305) (by decide +kernel)), rfl⟩
theorem mw_306 : (Cond.selects "CursorRewriter" ({ cls := "CursorRewriter", name := "restart", desc := "()V" } : Jvm.MethodName) ({ cls := "CursorRewriter", name := "restart", desc := "()V" } : Jvm.MethodName)) ∈ kv_tb := List.mem_filter.mpr ⟨List.mem_append_right _ (List.mem_of_getElem? (i := 306) (by decide +kernel)), rfl⟩
theorem mw_307 : (Cond.code ({ cls := "CursorRewriter", name := "restart", desc := "()V" } : Jvm.MethodName) prog_1_method_5_code (1 : Nat) (Option.none : Option Jvm.ClassFile.FieldType)) ∈ kv_tb := List.mem_filter.mpr ⟨List.mem_append_right _ (List.mem_of_getElem? (i := 307) (by decide +kernel)), rfl⟩
theorem mw_308 : (Cond.methodLink "CursorRewriter" (75 : Nat) ({ cls := "CursorRewriter$Text", name := "clear", desc := "()V" } : Jvm.MethodName)) ∈ kv_tb := List.mem_filter.mpr ⟨List.mem_append_right _ (List.mem_of_getElem? (i := 308) (by decide +kernel)), rfl⟩
theorem mw_309 : (Cond.instanceMethod ({ cls := "CursorRewriter$Text", name := "clear", desc := "()V" } : Jvm.MethodName)) ∈ kv_tb := List.mem_filter.mpr ⟨List.mem_append_right _ (List.mem_of_getElem? (i := 309) (by decide +kernel)), rfl⟩
theorem mw_310 : (Cond.selects "CursorRewriter$Text" ({ cls := "CursorRewriter$Text", name := "clear", desc := "()V" } : Jvm.MethodName) ({ cls := "CursorRewriter$Text", name := "clear", desc := "()V" } : Jvm.MethodName)) ∈ kv_tb := List.mem_filter.mpr ⟨List.mem_append_right _ (List.mem_of_getElem? (i := 310) (by decide +kernel)), rfl⟩
theorem mw_311 : (Cond.code ({ cls := "CursorRewriter$Text", name := "clear", desc := "()V" } : Jvm.MethodName) prog_5_method_2_code (1 : Nat) (Option.none : Option Jvm.ClassFile.FieldType)) ∈ kv_tb := List.mem_filter.mpr ⟨List.mem_append_right _ (List.mem_of_getElem? (i := 311) (by decide +kernel)), rfl⟩
theorem mw_312 : (Cond.methodLink "CursorRewriterLaw" (27 : Nat) ({ cls := "CursorRewriter", name := "restart", desc := "()V" } : Jvm.MethodName)) ∈ kv_tb := List.mem_filter.mpr ⟨List.mem_append_right _ (List.mem_of_getElem? (i := 312) (by decide +kernel)), rfl⟩
theorem mw_313 : (Cond.methodLink "CursorRewriterLaw" (31 : Nat) ({ cls := "CursorRewriter", name := "write", desc := "(C)Z" } : Jvm.MethodName)) ∈ kv_tb := List.mem_filter.mpr ⟨List.mem_append_right _ (List.mem_of_getElem? (i := 313) (by decide +kernel)), rfl⟩
theorem mw_314 : (Cond.instanceMethod ({ cls := "CursorRewriter", name := "write", desc := "(C)Z" } : Jvm.MethodName)) ∈ kv_tb := List.mem_filter.mpr ⟨List.mem_append_right _ (List.mem_of_getElem? (i := 314) (by decide +kernel)), rfl⟩
theorem mw_315 : (Cond.selects "CursorRewriter" ({ cls := "CursorRewriter", name := "write", desc := "(C)Z" } : Jvm.MethodName) ({ cls := "CursorRewriter", name := "write", desc := "(C)Z" } : Jvm.MethodName)) ∈ kv_tb := List.mem_filter.mpr ⟨List.mem_append_right _ (List.mem_of_getElem? (i := 315) (by decide +kernel)), rfl⟩
theorem mw_316 : (Cond.code ({ cls := "CursorRewriter", name := "write", desc := "(C)Z" } : Jvm.MethodName) prog_1_method_6_code (2 : Nat) (Option.some Jvm.ClassFile.FieldType.boolean)) ∈ kv_tb := List.mem_filter.mpr ⟨List.mem_append_right _ (List.mem_of_getElem? (i := 316) (by decide +kernel)), rfl⟩
theorem mw_317 : (Cond.methodLink "CursorRewriter" (76 : Nat) ({ cls := "CursorRewriter", name := "isSmall", desc := "(C)Z" } : Jvm.MethodName)) ∈ kv_tb := List.mem_filter.mpr ⟨List.mem_append_right _ (List.mem_of_getElem? (i := 317) (by decide +kernel)), rfl⟩
theorem mw_318 : (Cond.methodLink "CursorRewriter" (79 : Nat) ({ cls := "CursorRewriter$Text", name := "append", desc := "(C)Z" } : Jvm.MethodName)) ∈ kv_tb := List.mem_filter.mpr ⟨List.mem_append_right _ (List.mem_of_getElem? (i := 318) (by decide +kernel)), rfl⟩
theorem mw_319 : (Cond.instanceMethod ({ cls := "CursorRewriter$Text", name := "append", desc := "(C)Z" } : Jvm.MethodName)) ∈ kv_tb := List.mem_filter.mpr ⟨List.mem_append_right _ (List.mem_of_getElem? (i := 319) (by decide +kernel)), rfl⟩
theorem mw_320 : (Cond.selects "CursorRewriter$Text" ({ cls := "CursorRewriter$Text", name := "append", desc := "(C)Z" } : Jvm.MethodName) ({ cls := "CursorRewriter$Text", name := "append", desc := "(C)Z" } : Jvm.MethodName)) ∈ kv_tb := List.mem_filter.mpr ⟨List.mem_append_right _ (List.mem_of_getElem? (i := 320) (by decide +kernel)), rfl⟩
theorem mw_321 : (Cond.code ({ cls := "CursorRewriter$Text", name := "append", desc := "(C)Z" } : Jvm.MethodName) prog_5_method_3_code (2 : Nat) (Option.some Jvm.ClassFile.FieldType.boolean)) ∈ kv_tb := List.mem_filter.mpr ⟨List.mem_append_right _ (List.mem_of_getElem? (i := 321) (by decide +kernel)), rfl⟩
theorem mw_322 : (Cond.methodLink "CursorRewriterLaw" (36 : Nat) ({ cls := "CursorRewriter", name := "settle", desc := "()I" } : Jvm.MethodName)) ∈ kv_tb := List.mem_filter.mpr ⟨List.mem_append_right _ (List.mem_of_getElem? (i := 322) (by decide +kernel)), rfl⟩
theorem mw_323 : (Cond.instanceMethod ({ cls := "CursorRewriter", name := "settle", desc := "()I" } : Jvm.MethodName)) ∈ kv_tb := List.mem_filter.mpr ⟨List.mem_append_right _ (List.mem_of_getElem? (i := 323) (by decide +kernel)), rfl⟩
theorem mw_324 : (Cond.selects "CursorRewriter" ({ cls := "CursorRewriter", name := "settle", desc := "()I" } : Jvm.MethodName) ({ cls := "CursorRewriter", name := "settle", desc := "()I" } : Jvm.MethodName)) ∈ kv_tb := List.mem_filter.mpr ⟨List.mem_append_right _ (List.mem_of_getElem? (i := 324) (by decide +kernel)), rfl⟩
theorem mw_325 : (Cond.code ({ cls := "CursorRewriter", name := "settle", desc := "()I" } : Jvm.MethodName) prog_1_method_7_code (1 : Nat) (Option.some Jvm.ClassFile.FieldType.int)) ∈ kv_tb := List.mem_filter.mpr ⟨List.mem_append_right _ (List.mem_of_getElem? (i := 325) (by decide +kernel)), rfl⟩
theorem mw_326 : (Cond.methodLink "CursorRewriter" (82 : Nat) ({ cls := "CursorRewriter", name := "rewrite", desc := "(Z)I" } : Jvm.MethodName)) ∈ kv_tb := List.mem_filter.mpr ⟨List.mem_append_right _ (List.mem_of_getElem? (i := 326) (by decide +kernel)), rfl⟩
theorem mw_328 : (Cond.instanceMethod ({ cls := "CursorRewriter", name := "rewrite", desc := "(Z)I" } : Jvm.MethodName)) ∈ kv_tb := List.mem_filter.mpr ⟨List.mem_append_right _ (List.mem_of_getElem? (i := 328) (by decide +kernel)), rfl⟩
theorem mw_329 : (Cond.code ({ cls := "CursorRewriter", name := "rewrite", desc := "(Z)I" } : Jvm.MethodName) prog_1_method_19_code (5 : Nat) (Option.some Jvm.ClassFile.FieldType.int)) ∈ kv_tb := List.mem_filter.mpr ⟨List.mem_append_right _ (List.mem_of_getElem? (i := 329) (by decide +kernel)), rfl⟩
theorem mw_330 : (Cond.methodLink "CursorRewriter" (129 : Nat) ({ cls := "CursorRewriter", name := "doAtCursor", desc := "(Z)Z" } : Jvm.MethodName)) ∈ kv_tb := List.mem_filter.mpr ⟨List.mem_append_right _ (List.mem_of_getElem? (i := 330) (by decide +kernel)), rfl⟩
theorem mw_332 : (Cond.instanceMethod ({ cls := "CursorRewriter", name := "doAtCursor", desc := "(Z)Z" } : Jvm.MethodName)) ∈ kv_tb := List.mem_filter.mpr ⟨List.mem_append_right _ (List.mem_of_getElem? (i := 332) (by decide +kernel)), rfl⟩
theorem mw_333 : (Cond.code ({ cls := "CursorRewriter", name := "doAtCursor", desc := "(Z)Z" } : Jvm.MethodName) prog_1_method_20_code (4 : Nat) (Option.some Jvm.ClassFile.FieldType.boolean)) ∈ kv_tb := List.mem_filter.mpr ⟨List.mem_append_right _ (List.mem_of_getElem? (i := 333) (by decide +kernel)), rfl⟩
theorem mw_334 : (Cond.methodLink "CursorRewriter" (96 : Nat) ({ cls := "CursorRewriter$Match", name := "run", desc := "(LCursorRewriter$Rule;LCursorRewriter$Text;Z)I" } : Jvm.MethodName)) ∈ kv_tb := List.mem_filter.mpr ⟨List.mem_append_right _ (List.mem_of_getElem? (i := 334) (by decide +kernel)), rfl⟩
theorem mw_335 : (Cond.instanceMethod ({ cls := "CursorRewriter$Match", name := "run", desc := "(LCursorRewriter$Rule;LCursorRewriter$Text;Z)I" } : Jvm.MethodName)) ∈ kv_tb := List.mem_filter.mpr ⟨List.mem_append_right _ (List.mem_of_getElem? (i := 335) (by decide +kernel)), rfl⟩
theorem mw_336 : (Cond.selects "CursorRewriter$Match" ({ cls := "CursorRewriter$Match", name := "run", desc := "(LCursorRewriter$Rule;LCursorRewriter$Text;Z)I" } : Jvm.MethodName) ({ cls := "CursorRewriter$Match", name := "run", desc := "(LCursorRewriter$Rule;LCursorRewriter$Text;Z)I" } : Jvm.MethodName)) ∈ kv_tb := List.mem_filter.mpr ⟨List.mem_append_right _ (List.mem_of_getElem? (i := 336) (by decide +kernel)), rfl⟩
theorem mw_337 : (Cond.code ({ cls := "CursorRewriter$Match", name := "run", desc := "(LCursorRewriter$Rule;LCursorRewriter$Text;Z)I" } : Jvm.MethodName) prog_2_method_2_code (5 : Nat) (Option.some Jvm.ClassFile.FieldType.int)) ∈ kv_tb := List.mem_filter.mpr ⟨List.mem_append_right _ (List.mem_of_getElem? (i := 337) (by decide +kernel)), rfl⟩
theorem mw_338 : (Cond.methodLink "CursorRewriter$Match" (15 : Nat) ({ cls := "CursorRewriter$Match", name := "takeBefore", desc := "(LCursorRewriter$Rule;LCursorRewriter$Text;)Z" } : Jvm.MethodName)) ∈ kv_tb := List.mem_filter.mpr ⟨List.mem_append_right _ (List.mem_of_getElem? (i := 338) (by decide +kernel)), rfl⟩
theorem mw_340 : (Cond.instanceMethod ({ cls := "CursorRewriter$Match", name := "takeBefore", desc := "(LCursorRewriter$Rule;LCursorRewriter$Text;)Z" } : Jvm.MethodName)) ∈ kv_tb := List.mem_filter.mpr ⟨List.mem_append_right _ (List.mem_of_getElem? (i := 340) (by decide +kernel)), rfl⟩
theorem mw_341 : (Cond.code ({ cls := "CursorRewriter$Match", name := "takeBefore", desc := "(LCursorRewriter$Rule;LCursorRewriter$Text;)Z" } : Jvm.MethodName) prog_2_method_3_code (6 : Nat) (Option.some Jvm.ClassFile.FieldType.boolean)) ∈ kv_tb := List.mem_filter.mpr ⟨List.mem_append_right _ (List.mem_of_getElem? (i := 341) (by decide +kernel)), rfl⟩
theorem mw_342 : (Cond.methodLink "CursorRewriter$Match" (46 : Nat) ({ cls := "CursorRewriter$Text", name := "isIn", desc := "(II)Z" } : Jvm.MethodName)) ∈ kv_tb := List.mem_filter.mpr ⟨List.mem_append_right _ (List.mem_of_getElem? (i := 342) (by decide +kernel)), rfl⟩
theorem mw_343 : (Cond.instanceMethod ({ cls := "CursorRewriter$Text", name := "isIn", desc := "(II)Z" } : Jvm.MethodName)) ∈ kv_tb := List.mem_filter.mpr ⟨List.mem_append_right _ (List.mem_of_getElem? (i := 343) (by decide +kernel)), rfl⟩
theorem mw_344 : (Cond.selects "CursorRewriter$Text" ({ cls := "CursorRewriter$Text", name := "isIn", desc := "(II)Z" } : Jvm.MethodName) ({ cls := "CursorRewriter$Text", name := "isIn", desc := "(II)Z" } : Jvm.MethodName)) ∈ kv_tb := List.mem_filter.mpr ⟨List.mem_append_right _ (List.mem_of_getElem? (i := 344) (by decide +kernel)), rfl⟩
theorem mw_345 : (Cond.code ({ cls := "CursorRewriter$Text", name := "isIn", desc := "(II)Z" } : Jvm.MethodName) prog_5_method_4_code (3 : Nat) (Option.some Jvm.ClassFile.FieldType.boolean)) ∈ kv_tb := List.mem_filter.mpr ⟨List.mem_append_right _ (List.mem_of_getElem? (i := 345) (by decide +kernel)), rfl⟩
theorem mw_346 : (Cond.methodLink "CursorRewriter$Match" (33 : Nat) ({ cls := "CursorRewriter$Match", name := "takeOnward", desc := "(LCursorRewriter$Rule;LCursorRewriter$Text;IIZ)I" } : Jvm.MethodName)) ∈ kv_tb := List.mem_filter.mpr ⟨List.mem_append_right _ (List.mem_of_getElem? (i := 346) (by decide +kernel)), rfl⟩
theorem mw_348 : (Cond.instanceMethod ({ cls := "CursorRewriter$Match", name := "takeOnward", desc := "(LCursorRewriter$Rule;LCursorRewriter$Text;IIZ)I" } : Jvm.MethodName)) ∈ kv_tb := List.mem_filter.mpr ⟨List.mem_append_right _ (List.mem_of_getElem? (i := 348) (by decide +kernel)), rfl⟩
theorem mw_349 : (Cond.code ({ cls := "CursorRewriter$Match", name := "takeOnward", desc := "(LCursorRewriter$Rule;LCursorRewriter$Text;IIZ)I" } : Jvm.MethodName) prog_2_method_4_code (9 : Nat) (Option.some Jvm.ClassFile.FieldType.int)) ∈ kv_tb := List.mem_filter.mpr ⟨List.mem_append_right _ (List.mem_of_getElem? (i := 349) (by decide +kernel)), rfl⟩
theorem mw_350 : (Cond.methodLink "CursorRewriter" (133 : Nat) ({ cls := "CursorRewriter", name := "apply", desc := "(I)Z" } : Jvm.MethodName)) ∈ kv_tb := List.mem_filter.mpr ⟨List.mem_append_right _ (List.mem_of_getElem? (i := 350) (by decide +kernel)), rfl⟩
theorem mw_352 : (Cond.instanceMethod ({ cls := "CursorRewriter", name := "apply", desc := "(I)Z" } : Jvm.MethodName)) ∈ kv_tb := List.mem_filter.mpr ⟨List.mem_append_right _ (List.mem_of_getElem? (i := 352) (by decide +kernel)), rfl⟩
theorem mw_353 : (Cond.code ({ cls := "CursorRewriter", name := "apply", desc := "(I)Z" } : Jvm.MethodName) prog_1_method_21_code (3 : Nat) (Option.some Jvm.ClassFile.FieldType.boolean)) ∈ kv_tb := List.mem_filter.mpr ⟨List.mem_append_right _ (List.mem_of_getElem? (i := 353) (by decide +kernel)), rfl⟩
theorem mw_354 : (Cond.methodLink "CursorRewriter" (137 : Nat) ({ cls := "CursorRewriter$Text", name := "sizeAfter", desc := "(LCursorRewriter$Rule;LCursorRewriter$Match;)I" } : Jvm.MethodName)) ∈ kv_tb := List.mem_filter.mpr ⟨List.mem_append_right _ (List.mem_of_getElem? (i := 354) (by decide +kernel)), rfl⟩
theorem mw_355 : (Cond.instanceMethod ({ cls := "CursorRewriter$Text", name := "sizeAfter", desc := "(LCursorRewriter$Rule;LCursorRewriter$Match;)I" } : Jvm.MethodName)) ∈ kv_tb := List.mem_filter.mpr ⟨List.mem_append_right _ (List.mem_of_getElem? (i := 355) (by decide +kernel)), rfl⟩
theorem mw_356 : (Cond.selects "CursorRewriter$Text" ({ cls := "CursorRewriter$Text", name := "sizeAfter", desc := "(LCursorRewriter$Rule;LCursorRewriter$Match;)I" } : Jvm.MethodName) ({ cls := "CursorRewriter$Text", name := "sizeAfter", desc := "(LCursorRewriter$Rule;LCursorRewriter$Match;)I" } : Jvm.MethodName)) ∈ kv_tb := List.mem_filter.mpr ⟨List.mem_append_right _ (List.mem_of_getElem? (i := 356) (by decide +kernel)), rfl⟩
theorem mw_357 : (Cond.code ({ cls := "CursorRewriter$Text", name := "sizeAfter", desc := "(LCursorRewriter$Rule;LCursorRewriter$Match;)I" } : Jvm.MethodName) prog_5_method_5_code (4 : Nat) (Option.some Jvm.ClassFile.FieldType.int)) ∈ kv_tb := List.mem_filter.mpr ⟨List.mem_append_right _ (List.mem_of_getElem? (i := 357) (by decide +kernel)), rfl⟩
theorem mw_358 : (Cond.methodLink "CursorRewriter$Text" (39 : Nat) ({ cls := "CursorRewriter$Text", name := "widthOf", desc := "(LCursorRewriter$Rule;LCursorRewriter$Match;I)I" } : Jvm.MethodName)) ∈ kv_tb := List.mem_filter.mpr ⟨List.mem_append_right _ (List.mem_of_getElem? (i := 358) (by decide +kernel)), rfl⟩
theorem mw_359 : (Cond.static ({ cls := "CursorRewriter$Text", name := "widthOf", desc := "(LCursorRewriter$Rule;LCursorRewriter$Match;I)I" } : Jvm.MethodName)) ∈ kv_tb := List.mem_filter.mpr ⟨List.mem_append_right _ (List.mem_of_getElem? (i := 359) (by decide +kernel)), rfl⟩
theorem mw_360 : (Cond.code ({ cls := "CursorRewriter$Text", name := "widthOf", desc := "(LCursorRewriter$Rule;LCursorRewriter$Match;I)I" } : Jvm.MethodName) prog_5_method_8_code (6 : Nat) (Option.some Jvm.ClassFile.FieldType.int)) ∈ kv_tb := List.mem_filter.mpr ⟨List.mem_append_right _ (List.mem_of_getElem? (i := 360) (by decide +kernel)), rfl⟩
theorem mw_361 : (Cond.methodLinkNest "CursorRewriter$Text" (59 : Nat) ({ cls := "CursorRewriter", name := "isSmall", desc := "(C)Z" } : Jvm.MethodName) "CursorRewriter") ∈ kv_nl := List.mem_filter.mpr ⟨List.mem_of_getElem? (i := 361) (by decide +kernel), rfl⟩
theorem mw_362 : (Cond.methodLink "CursorRewriter$Text" (63 : Nat) ({ cls := "CursorRewriter$Match", name := "segmentWidth", desc := "(LCursorRewriter$Rule;C)I" } : Jvm.MethodName)) ∈ kv_tb := List.mem_filter.mpr ⟨List.mem_append_right _ (List.mem_of_getElem? (i := 362) (by decide +kernel)), rfl⟩
theorem mw_363 : (Cond.instanceMethod ({ cls := "CursorRewriter$Match", name := "segmentWidth", desc := "(LCursorRewriter$Rule;C)I" } : Jvm.MethodName)) ∈ kv_tb := List.mem_filter.mpr ⟨List.mem_append_right _ (List.mem_of_getElem? (i := 363) (by decide +kernel)), rfl⟩
theorem mw_364 : (Cond.selects "CursorRewriter$Match" ({ cls := "CursorRewriter$Match", name := "segmentWidth", desc := "(LCursorRewriter$Rule;C)I" } : Jvm.MethodName) ({ cls := "CursorRewriter$Match", name := "segmentWidth", desc := "(LCursorRewriter$Rule;C)I" } : Jvm.MethodName)) ∈ kv_tb := List.mem_filter.mpr ⟨List.mem_append_right _ (List.mem_of_getElem? (i := 364) (by decide +kernel)), rfl⟩
theorem mw_365 : (Cond.code ({ cls := "CursorRewriter$Match", name := "segmentWidth", desc := "(LCursorRewriter$Rule;C)I" } : Jvm.MethodName) prog_2_method_6_code (4 : Nat) (Option.some Jvm.ClassFile.FieldType.int)) ∈ kv_tb := List.mem_filter.mpr ⟨List.mem_append_right _ (List.mem_of_getElem? (i := 365) (by decide +kernel)), rfl⟩
theorem mw_366 : (Cond.methodLink "CursorRewriter" (141 : Nat) ({ cls := "CursorRewriter$Text", name := "replace", desc := "(LCursorRewriter$Rule;LCursorRewriter$Match;)V" } : Jvm.MethodName)) ∈ kv_tb := List.mem_filter.mpr ⟨List.mem_append_right _ (List.mem_of_getElem? (i := 366) (by decide +kernel)), rfl⟩
theorem mw_367 : (Cond.instanceMethod ({ cls := "CursorRewriter$Text", name := "replace", desc := "(LCursorRewriter$Rule;LCursorRewriter$Match;)V" } : Jvm.MethodName)) ∈ kv_tb := List.mem_filter.mpr ⟨List.mem_append_right _ (List.mem_of_getElem? (i := 367) (by decide +kernel)), rfl⟩
theorem mw_368 : (Cond.selects "CursorRewriter$Text" ({ cls := "CursorRewriter$Text", name := "replace", desc := "(LCursorRewriter$Rule;LCursorRewriter$Match;)V" } : Jvm.MethodName) ({ cls := "CursorRewriter$Text", name := "replace", desc := "(LCursorRewriter$Rule;LCursorRewriter$Match;)V" } : Jvm.MethodName)) ∈ kv_tb := List.mem_filter.mpr ⟨List.mem_append_right _ (List.mem_of_getElem? (i := 368) (by decide +kernel)), rfl⟩
theorem mw_369 : (Cond.code ({ cls := "CursorRewriter$Text", name := "replace", desc := "(LCursorRewriter$Rule;LCursorRewriter$Match;)V" } : Jvm.MethodName) prog_5_method_6_code (6 : Nat) (Option.none : Option Jvm.ClassFile.FieldType)) ∈ kv_tb := List.mem_filter.mpr ⟨List.mem_append_right _ (List.mem_of_getElem? (i := 369) (by decide +kernel)), rfl⟩
theorem mw_370 : (Cond.methodLink "CursorRewriter$Text" (43 : Nat) ({ cls := "java/lang/System", name := "arraycopy", desc := "(Ljava/lang/Object;ILjava/lang/Object;II)V" } : Jvm.MethodName)) ∈ kv_tb := List.mem_filter.mpr ⟨List.mem_append_right _ (List.mem_of_getElem? (i := 370) (by decide +kernel)), rfl⟩
theorem mw_371 : (Cond.static ({ cls := "java/lang/System", name := "arraycopy", desc := "(Ljava/lang/Object;ILjava/lang/Object;II)V" } : Jvm.MethodName)) ∈ kv_tb := List.mem_filter.mpr ⟨List.mem_append_right _ (List.mem_of_getElem? (i := 371) (by decide +kernel)), rfl⟩
theorem mw_372 : (Cond.native ({ cls := "java/lang/System", name := "arraycopy", desc := "(Ljava/lang/Object;ILjava/lang/Object;II)V" } : Jvm.MethodName)) ∈ kv_tb := List.mem_filter.mpr ⟨List.mem_append_right _ (List.mem_of_getElem? (i := 372) (by decide +kernel)), rfl⟩
theorem mw_373 : (Cond.methodLink "CursorRewriter$Text" (49 : Nat) ({ cls := "CursorRewriter$Text", name := "putPiece", desc := "(LCursorRewriter$Rule;LCursorRewriter$Match;II)I" } : Jvm.MethodName)) ∈ kv_tb := List.mem_filter.mpr ⟨List.mem_append_right _ (List.mem_of_getElem? (i := 373) (by decide +kernel)), rfl⟩
theorem mw_375 : (Cond.instanceMethod ({ cls := "CursorRewriter$Text", name := "putPiece", desc := "(LCursorRewriter$Rule;LCursorRewriter$Match;II)I" } : Jvm.MethodName)) ∈ kv_tb := List.mem_filter.mpr ⟨List.mem_append_right _ (List.mem_of_getElem? (i := 375) (by decide +kernel)), rfl⟩
theorem mw_376 : (Cond.code ({ cls := "CursorRewriter$Text", name := "putPiece", desc := "(LCursorRewriter$Rule;LCursorRewriter$Match;II)I" } : Jvm.MethodName) prog_5_method_7_code (7 : Nat) (Option.some Jvm.ClassFile.FieldType.int)) ∈ kv_tb := List.mem_filter.mpr ⟨List.mem_append_right _ (List.mem_of_getElem? (i := 376) (by decide +kernel)), rfl⟩
theorem mw_377 : (Cond.methodLink "CursorRewriter$Text" (67 : Nat) ({ cls := "CursorRewriter$Match", name := "segmentBegin", desc := "(LCursorRewriter$Rule;C)I" } : Jvm.MethodName)) ∈ kv_tb := List.mem_filter.mpr ⟨List.mem_append_right _ (List.mem_of_getElem? (i := 377) (by decide +kernel)), rfl⟩
theorem mw_378 : (Cond.instanceMethod ({ cls := "CursorRewriter$Match", name := "segmentBegin", desc := "(LCursorRewriter$Rule;C)I" } : Jvm.MethodName)) ∈ kv_tb := List.mem_filter.mpr ⟨List.mem_append_right _ (List.mem_of_getElem? (i := 378) (by decide +kernel)), rfl⟩
theorem mw_379 : (Cond.selects "CursorRewriter$Match" ({ cls := "CursorRewriter$Match", name := "segmentBegin", desc := "(LCursorRewriter$Rule;C)I" } : Jvm.MethodName) ({ cls := "CursorRewriter$Match", name := "segmentBegin", desc := "(LCursorRewriter$Rule;C)I" } : Jvm.MethodName)) ∈ kv_tb := List.mem_filter.mpr ⟨List.mem_append_right _ (List.mem_of_getElem? (i := 379) (by decide +kernel)), rfl⟩
theorem mw_380 : (Cond.code ({ cls := "CursorRewriter$Match", name := "segmentBegin", desc := "(LCursorRewriter$Rule;C)I" } : Jvm.MethodName) prog_2_method_5_code (3 : Nat) (Option.some Jvm.ClassFile.FieldType.int)) ∈ kv_tb := List.mem_filter.mpr ⟨List.mem_append_right _ (List.mem_of_getElem? (i := 380) (by decide +kernel)), rfl⟩
theorem mw_381 : (Cond.methodLink "CursorRewriterLaw" (40 : Nat) ({ cls := "CursorRewriter", name := "finish", desc := "()I" } : Jvm.MethodName)) ∈ kv_tb := List.mem_filter.mpr ⟨List.mem_append_right _ (List.mem_of_getElem? (i := 381) (by decide +kernel)), rfl⟩
theorem mw_382 : (Cond.instanceMethod ({ cls := "CursorRewriter", name := "finish", desc := "()I" } : Jvm.MethodName)) ∈ kv_tb := List.mem_filter.mpr ⟨List.mem_append_right _ (List.mem_of_getElem? (i := 382) (by decide +kernel)), rfl⟩
theorem mw_383 : (Cond.selects "CursorRewriter" ({ cls := "CursorRewriter", name := "finish", desc := "()I" } : Jvm.MethodName) ({ cls := "CursorRewriter", name := "finish", desc := "()I" } : Jvm.MethodName)) ∈ kv_tb := List.mem_filter.mpr ⟨List.mem_append_right _ (List.mem_of_getElem? (i := 383) (by decide +kernel)), rfl⟩
theorem mw_384 : (Cond.code ({ cls := "CursorRewriter", name := "finish", desc := "()I" } : Jvm.MethodName) prog_1_method_8_code (1 : Nat) (Option.some Jvm.ClassFile.FieldType.int)) ∈ kv_tb := List.mem_filter.mpr ⟨List.mem_append_right _ (List.mem_of_getElem? (i := 384) (by decide +kernel)), rfl⟩
theorem mw_385 : (Cond.methodLink "CursorRewriterLaw" (44 : Nat) ({ cls := "CursorRewriter", name := "length", desc := "()I" } : Jvm.MethodName)) ∈ kv_tb := List.mem_filter.mpr ⟨List.mem_append_right _ (List.mem_of_getElem? (i := 385) (by decide +kernel)), rfl⟩
theorem mw_386 : (Cond.instanceMethod ({ cls := "CursorRewriter", name := "length", desc := "()I" } : Jvm.MethodName)) ∈ kv_tb := List.mem_filter.mpr ⟨List.mem_append_right _ (List.mem_of_getElem? (i := 386) (by decide +kernel)), rfl⟩
theorem mw_387 : (Cond.selects "CursorRewriter" ({ cls := "CursorRewriter", name := "length", desc := "()I" } : Jvm.MethodName) ({ cls := "CursorRewriter", name := "length", desc := "()I" } : Jvm.MethodName)) ∈ kv_tb := List.mem_filter.mpr ⟨List.mem_append_right _ (List.mem_of_getElem? (i := 387) (by decide +kernel)), rfl⟩
theorem mw_388 : (Cond.code ({ cls := "CursorRewriter", name := "length", desc := "()I" } : Jvm.MethodName) prog_1_method_9_code (1 : Nat) (Option.some Jvm.ClassFile.FieldType.int)) ∈ kv_tb := List.mem_filter.mpr ⟨List.mem_append_right _ (List.mem_of_getElem? (i := 388) (by decide +kernel)), rfl⟩
theorem mw_389 : (Cond.methodLink "CursorRewriterLaw" (48 : Nat) ({ cls := "CursorRewriter", name := "letter", desc := "(I)I" } : Jvm.MethodName)) ∈ kv_tb := List.mem_filter.mpr ⟨List.mem_append_right _ (List.mem_of_getElem? (i := 389) (by decide +kernel)), rfl⟩
theorem mw_390 : (Cond.instanceMethod ({ cls := "CursorRewriter", name := "letter", desc := "(I)I" } : Jvm.MethodName)) ∈ kv_tb := List.mem_filter.mpr ⟨List.mem_append_right _ (List.mem_of_getElem? (i := 390) (by decide +kernel)), rfl⟩
theorem mw_391 : (Cond.selects "CursorRewriter" ({ cls := "CursorRewriter", name := "letter", desc := "(I)I" } : Jvm.MethodName) ({ cls := "CursorRewriter", name := "letter", desc := "(I)I" } : Jvm.MethodName)) ∈ kv_tb := List.mem_filter.mpr ⟨List.mem_append_right _ (List.mem_of_getElem? (i := 391) (by decide +kernel)), rfl⟩
theorem mw_392 : (Cond.code ({ cls := "CursorRewriter", name := "letter", desc := "(I)I" } : Jvm.MethodName) prog_1_method_10_code (2 : Nat) (Option.some Jvm.ClassFile.FieldType.int)) ∈ kv_tb := List.mem_filter.mpr ⟨List.mem_append_right _ (List.mem_of_getElem? (i := 392) (by decide +kernel)), rfl⟩
theorem mw_393 : (Cond.methodLink "CursorRewriterLaw" (53 : Nat) ({ cls := "CursorRewriter", name := "cursor", desc := "()I" } : Jvm.MethodName)) ∈ kv_tb := List.mem_filter.mpr ⟨List.mem_append_right _ (List.mem_of_getElem? (i := 393) (by decide +kernel)), rfl⟩
theorem mw_394 : (Cond.instanceMethod ({ cls := "CursorRewriter", name := "cursor", desc := "()I" } : Jvm.MethodName)) ∈ kv_tb := List.mem_filter.mpr ⟨List.mem_append_right _ (List.mem_of_getElem? (i := 394) (by decide +kernel)), rfl⟩
theorem mw_395 : (Cond.selects "CursorRewriter" ({ cls := "CursorRewriter", name := "cursor", desc := "()I" } : Jvm.MethodName) ({ cls := "CursorRewriter", name := "cursor", desc := "()I" } : Jvm.MethodName)) ∈ kv_tb := List.mem_filter.mpr ⟨List.mem_append_right _ (List.mem_of_getElem? (i := 395) (by decide +kernel)), rfl⟩
theorem mw_396 : (Cond.code ({ cls := "CursorRewriter", name := "cursor", desc := "()I" } : Jvm.MethodName) prog_1_method_11_code (1 : Nat) (Option.some Jvm.ClassFile.FieldType.int)) ∈ kv_tb := List.mem_filter.mpr ⟨List.mem_append_right _ (List.mem_of_getElem? (i := 396) (by decide +kernel)), rfl⟩
theorem mw_397 : (Cond.methodLink "CursorRewriterLaw" (57 : Nat) ({ cls := "CursorRewriter", name := "applied", desc := "()I" } : Jvm.MethodName)) ∈ kv_tb := List.mem_filter.mpr ⟨List.mem_append_right _ (List.mem_of_getElem? (i := 397) (by decide +kernel)), rfl⟩
theorem mw_398 : (Cond.instanceMethod ({ cls := "CursorRewriter", name := "applied", desc := "()I" } : Jvm.MethodName)) ∈ kv_tb := List.mem_filter.mpr ⟨List.mem_append_right _ (List.mem_of_getElem? (i := 398) (by decide +kernel)), rfl⟩
theorem mw_399 : (Cond.selects "CursorRewriter" ({ cls := "CursorRewriter", name := "applied", desc := "()I" } : Jvm.MethodName) ({ cls := "CursorRewriter", name := "applied", desc := "()I" } : Jvm.MethodName)) ∈ kv_tb := List.mem_filter.mpr ⟨List.mem_append_right _ (List.mem_of_getElem? (i := 399) (by decide +kernel)), rfl⟩
theorem mw_400 : (Cond.code ({ cls := "CursorRewriter", name := "applied", desc := "()I" } : Jvm.MethodName) prog_1_method_12_code (1 : Nat) (Option.some Jvm.ClassFile.FieldType.int)) ∈ kv_tb := List.mem_filter.mpr ⟨List.mem_append_right _ (List.mem_of_getElem? (i := 400) (by decide +kernel)), rfl⟩
theorem mw_401 : (Cond.methodLink "CursorRewriterLaw" (61 : Nat) ({ cls := "CursorRewriter", name := "latest", desc := "()I" } : Jvm.MethodName)) ∈ kv_tb := List.mem_filter.mpr ⟨List.mem_append_right _ (List.mem_of_getElem? (i := 401) (by decide +kernel)), rfl⟩
theorem mw_402 : (Cond.instanceMethod ({ cls := "CursorRewriter", name := "latest", desc := "()I" } : Jvm.MethodName)) ∈ kv_tb := List.mem_filter.mpr ⟨List.mem_append_right _ (List.mem_of_getElem? (i := 402) (by decide +kernel)), rfl⟩
theorem mw_403 : (Cond.selects "CursorRewriter" ({ cls := "CursorRewriter", name := "latest", desc := "()I" } : Jvm.MethodName) ({ cls := "CursorRewriter", name := "latest", desc := "()I" } : Jvm.MethodName)) ∈ kv_tb := List.mem_filter.mpr ⟨List.mem_append_right _ (List.mem_of_getElem? (i := 403) (by decide +kernel)), rfl⟩
theorem mw_404 : (Cond.code ({ cls := "CursorRewriter", name := "latest", desc := "()I" } : Jvm.MethodName) prog_1_method_13_code (1 : Nat) (Option.some Jvm.ClassFile.FieldType.int)) ∈ kv_tb := List.mem_filter.mpr ⟨List.mem_append_right _ (List.mem_of_getElem? (i := 404) (by decide +kernel)), rfl⟩
theorem mw_405 : (Cond.methodLink "CursorRewriterLaw" (65 : Nat) ({ cls := "CursorRewriter", name := "stuck", desc := "()Z" } : Jvm.MethodName)) ∈ kv_tb := List.mem_filter.mpr ⟨List.mem_append_right _ (List.mem_of_getElem? (i := 405) (by decide +kernel)), rfl⟩
theorem mw_406 : (Cond.instanceMethod ({ cls := "CursorRewriter", name := "stuck", desc := "()Z" } : Jvm.MethodName)) ∈ kv_tb := List.mem_filter.mpr ⟨List.mem_append_right _ (List.mem_of_getElem? (i := 406) (by decide +kernel)), rfl⟩
theorem mw_407 : (Cond.selects "CursorRewriter" ({ cls := "CursorRewriter", name := "stuck", desc := "()Z" } : Jvm.MethodName) ({ cls := "CursorRewriter", name := "stuck", desc := "()Z" } : Jvm.MethodName)) ∈ kv_tb := List.mem_filter.mpr ⟨List.mem_append_right _ (List.mem_of_getElem? (i := 407) (by decide +kernel)), rfl⟩
theorem mw_408 : (Cond.code ({ cls := "CursorRewriter", name := "stuck", desc := "()Z" } : Jvm.MethodName) prog_1_method_14_code (1 : Nat) (Option.some Jvm.ClassFile.FieldType.boolean)) ∈ kv_tb := List.mem_filter.mpr ⟨List.mem_append_right _ (List.mem_of_getElem? (i := 408) (by decide +kernel)), rfl⟩
theorem mw_409 : (Cond.methodLink "CursorRewriterLaw" (70 : Nat) ({ cls := "CursorRewriter", name := "probe", desc := "(IZ)I" } : Jvm.MethodName)) ∈ kv_tb := List.mem_filter.mpr ⟨List.mem_append_right _ (List.mem_of_getElem? (i := 409) (by decide +kernel)), rfl⟩
theorem mw_410 : (Cond.instanceMethod ({ cls := "CursorRewriter", name := "probe", desc := "(IZ)I" } : Jvm.MethodName)) ∈ kv_tb := List.mem_filter.mpr ⟨List.mem_append_right _ (List.mem_of_getElem? (i := 410) (by decide +kernel)), rfl⟩
theorem mw_411 : (Cond.selects "CursorRewriter" ({ cls := "CursorRewriter", name := "probe", desc := "(IZ)I" } : Jvm.MethodName) ({ cls := "CursorRewriter", name := "probe", desc := "(IZ)I" } : Jvm.MethodName)) ∈ kv_tb := List.mem_filter.mpr ⟨List.mem_append_right _ (List.mem_of_getElem? (i := 411) (by decide +kernel)), rfl⟩
theorem mw_412 : (Cond.code ({ cls := "CursorRewriter", name := "probe", desc := "(IZ)I" } : Jvm.MethodName) prog_1_method_15_code (3 : Nat) (Option.some Jvm.ClassFile.FieldType.int)) ∈ kv_tb := List.mem_filter.mpr ⟨List.mem_append_right _ (List.mem_of_getElem? (i := 412) (by decide +kernel)), rfl⟩
theorem mw_413 : (Cond.classLink "CursorRewriterLaw" (10 : Nat) "CursorRewriterModel") ∈ kv_tb := List.mem_filter.mpr ⟨List.mem_append_right _ (List.mem_of_getElem? (i := 413) (by decide +kernel)), rfl⟩
theorem mw_414 : (Cond.instantiable "CursorRewriterModel" (32 : Nat)) ∈ kv_tb := List.mem_filter.mpr ⟨List.mem_append_right _ (List.mem_of_getElem? (i := 414) (by decide +kernel)), rfl⟩
theorem mw_415 : (Cond.methodLink "CursorRewriterLaw" (12 : Nat) ({ cls := "CursorRewriterModel", name := "<init>", desc := "()V" } : Jvm.MethodName)) ∈ kv_tb := List.mem_filter.mpr ⟨List.mem_append_right _ (List.mem_of_getElem? (i := 415) (by decide +kernel)), rfl⟩
theorem mw_416 : (Cond.instanceMethod ({ cls := "CursorRewriterModel", name := "<init>", desc := "()V" } : Jvm.MethodName)) ∈ kv_tb := List.mem_filter.mpr ⟨List.mem_append_right _ (List.mem_of_getElem? (i := 416) (by decide +kernel)), rfl⟩
theorem mw_417 : (Cond.code ({ cls := "CursorRewriterModel", name := "<init>", desc := "()V" } : Jvm.MethodName) prog_7_method_1_code (2 : Nat) (Option.none : Option Jvm.ClassFile.FieldType)) ∈ kv_tb := List.mem_filter.mpr ⟨List.mem_append_right _ (List.mem_of_getElem? (i := 417) (by decide +kernel)), rfl⟩
theorem mw_418 : (Cond.methodLink "CursorRewriterModel" (1 : Nat) ({ cls := "java/lang/Object", name := "<init>", desc := "()V" } : Jvm.MethodName)) ∈ kv_tb := List.mem_filter.mpr ⟨List.mem_append_right _ (List.mem_of_getElem? (i := 418) (by decide +kernel)), rfl⟩
theorem mw_419 : (Cond.fieldLink "CursorRewriterModel" (74 : Nat) "CursorRewriterModel" "typed" "I") ∈ kv_tb := List.mem_filter.mpr ⟨List.mem_append_right _ (List.mem_of_getElem? (i := 419) (by decide +kernel)), rfl⟩
theorem mw_420 : (Cond.fieldLink "CursorRewriterModel" (7 : Nat) "CursorRewriterModel" "sign" "[I") ∈ kv_tb := List.mem_filter.mpr ⟨List.mem_append_right _ (List.mem_of_getElem? (i := 420) (by decide +kernel)), rfl⟩
theorem mw_421 : (Cond.fieldLink "CursorRewriterModel" (13 : Nat) "CursorRewriterModel" "meaning" "[I") ∈ kv_tb := List.mem_filter.mpr ⟨List.mem_append_right _ (List.mem_of_getElem? (i := 421) (by decide +kernel)), rfl⟩
theorem mw_422 : (Cond.fieldLink "CursorRewriterModel" (99 : Nat) "CursorRewriterModel" "elements" "I") ∈ kv_tb := List.mem_filter.mpr ⟨List.mem_append_right _ (List.mem_of_getElem? (i := 422) (by decide +kernel)), rfl⟩
theorem mw_423 : (Cond.fieldLink "CursorRewriterModel" (16 : Nat) "CursorRewriterModel" "set" "[I") ∈ kv_tb := List.mem_filter.mpr ⟨List.mem_append_right _ (List.mem_of_getElem? (i := 423) (by decide +kernel)), rfl⟩
theorem mw_424 : (Cond.fieldLink "CursorRewriterModel" (19 : Nat) "CursorRewriterModel" "least" "[I") ∈ kv_tb := List.mem_filter.mpr ⟨List.mem_append_right _ (List.mem_of_getElem? (i := 424) (by decide +kernel)), rfl⟩
theorem mw_425 : (Cond.fieldLink "CursorRewriterModel" (22 : Nat) "CursorRewriterModel" "most" "[I") ∈ kv_tb := List.mem_filter.mpr ⟨List.mem_append_right _ (List.mem_of_getElem? (i := 425) (by decide +kernel)), rfl⟩
theorem mw_426 : (Cond.fieldLink "CursorRewriterModel" (25 : Nat) "CursorRewriterModel" "segment" "[I") ∈ kv_tb := List.mem_filter.mpr ⟨List.mem_append_right _ (List.mem_of_getElem? (i := 426) (by decide +kernel)), rfl⟩
theorem mw_427 : (Cond.fieldLink "CursorRewriterModel" (102 : Nat) "CursorRewriterModel" "segments" "I") ∈ kv_tb := List.mem_filter.mpr ⟨List.mem_append_right _ (List.mem_of_getElem? (i := 427) (by decide +kernel)), rfl⟩
theorem mw_428 : (Cond.fieldLink "CursorRewriterModel" (92 : Nat) "CursorRewriterModel" "unknown" "Z") ∈ kv_tb := List.mem_filter.mpr ⟨List.mem_append_right _ (List.mem_of_getElem? (i := 428) (by decide +kernel)), rfl⟩
theorem mw_429 : (Cond.fieldLink "CursorRewriterModel" (85 : Nat) "CursorRewriterModel" "next" "I") ∈ kv_tb := List.mem_filter.mpr ⟨List.mem_append_right _ (List.mem_of_getElem? (i := 429) (by decide +kernel)), rfl⟩
theorem mw_430 : (Cond.fieldLink "CursorRewriterModel" (131 : Nat) "CursorRewriterModel" "rules" "I") ∈ kv_tb := List.mem_filter.mpr ⟨List.mem_append_right _ (List.mem_of_getElem? (i := 430) (by decide +kernel)), rfl⟩
theorem mw_431 : (Cond.fieldLink "CursorRewriterModel" (28 : Nat) "CursorRewriterModel" "keyAt" "[I") ∈ kv_tb := List.mem_filter.mpr ⟨List.mem_append_right _ (List.mem_of_getElem? (i := 431) (by decide +kernel)), rfl⟩
theorem mw_432 : (Cond.fieldLink "CursorRewriterModel" (31 : Nat) "CursorRewriterModel" "afterAt" "[I") ∈ kv_tb := List.mem_filter.mpr ⟨List.mem_append_right _ (List.mem_of_getElem? (i := 432) (by decide +kernel)), rfl⟩
theorem mw_433 : (Cond.fieldLink "CursorRewriterModel" (34 : Nat) "CursorRewriterModel" "ends" "[I") ∈ kv_tb := List.mem_filter.mpr ⟨List.mem_append_right _ (List.mem_of_getElem? (i := 433) (by decide +kernel)), rfl⟩
theorem mw_434 : (Cond.fieldLink "CursorRewriterModel" (37 : Nat) "CursorRewriterModel" "sets" "[I") ∈ kv_tb := List.mem_filter.mpr ⟨List.mem_append_right _ (List.mem_of_getElem? (i := 434) (by decide +kernel)), rfl⟩
theorem mw_435 : (Cond.fieldLink "CursorRewriterModel" (40 : Nat) "CursorRewriterModel" "leasts" "[I") ∈ kv_tb := List.mem_filter.mpr ⟨List.mem_append_right _ (List.mem_of_getElem? (i := 435) (by decide +kernel)), rfl⟩
theorem mw_436 : (Cond.fieldLink "CursorRewriterModel" (43 : Nat) "CursorRewriterModel" "mosts" "[I") ∈ kv_tb := List.mem_filter.mpr ⟨List.mem_append_right _ (List.mem_of_getElem? (i := 436) (by decide +kernel)), rfl⟩
theorem mw_437 : (Cond.fieldLink "CursorRewriterModel" (46 : Nat) "CursorRewriterModel" "segs" "[I") ∈ kv_tb := List.mem_filter.mpr ⟨List.mem_append_right _ (List.mem_of_getElem? (i := 437) (by decide +kernel)), rfl⟩
theorem mw_438 : (Cond.fieldLink "CursorRewriterModel" (49 : Nat) "CursorRewriterModel" "sizes" "[I") ∈ kv_tb := List.mem_filter.mpr ⟨List.mem_append_right _ (List.mem_of_getElem? (i := 438) (by decide +kernel)), rfl⟩
theorem mw_439 : (Cond.fieldLink "CursorRewriterModel" (52 : Nat) "CursorRewriterModel" "stops" "[I") ∈ kv_tb := List.mem_filter.mpr ⟨List.mem_append_right _ (List.mem_of_getElem? (i := 439) (by decide +kernel)), rfl⟩
theorem mw_440 : (Cond.fieldLink "CursorRewriterModel" (55 : Nat) "CursorRewriterModel" "gives" "[I") ∈ kv_tb := List.mem_filter.mpr ⟨List.mem_append_right _ (List.mem_of_getElem? (i := 440) (by decide +kernel)), rfl⟩
theorem mw_441 : (Cond.fieldLink "CursorRewriterModel" (150 : Nat) "CursorRewriterModel" "length" "I") ∈ kv_tb := List.mem_filter.mpr ⟨List.mem_append_right _ (List.mem_of_getElem? (i := 441) (by decide +kernel)), rfl⟩
theorem mw_442 : (Cond.fieldLink "CursorRewriterModel" (58 : Nat) "CursorRewriterModel" "text" "[I") ∈ kv_tb := List.mem_filter.mpr ⟨List.mem_append_right _ (List.mem_of_getElem? (i := 442) (by decide +kernel)), rfl⟩
theorem mw_443 : (Cond.fieldLink "CursorRewriterModel" (61 : Nat) "CursorRewriterModel" "fresh" "[I") ∈ kv_tb := List.mem_filter.mpr ⟨List.mem_append_right _ (List.mem_of_getElem? (i := 443) (by decide +kernel)), rfl⟩
theorem mw_444 : (Cond.fieldLink "CursorRewriterModel" (153 : Nat) "CursorRewriterModel" "cursor" "I") ∈ kv_tb := List.mem_filter.mpr ⟨List.mem_append_right _ (List.mem_of_getElem? (i := 444) (by decide +kernel)), rfl⟩
theorem mw_445 : (Cond.fieldLink "CursorRewriterModel" (156 : Nat) "CursorRewriterModel" "applied" "I") ∈ kv_tb := List.mem_filter.mpr ⟨List.mem_append_right _ (List.mem_of_getElem? (i := 445) (by decide +kernel)), rfl⟩
theorem mw_446 : (Cond.fieldLink "CursorRewriterModel" (64 : Nat) "CursorRewriterModel" "latest" "I") ∈ kv_tb := List.mem_filter.mpr ⟨List.mem_append_right _ (List.mem_of_getElem? (i := 446) (by decide +kernel)), rfl⟩
theorem mw_447 : (Cond.fieldLink "CursorRewriterModel" (159 : Nat) "CursorRewriterModel" "stuck" "Z") ∈ kv_tb := List.mem_filter.mpr ⟨List.mem_append_right _ (List.mem_of_getElem? (i := 447) (by decide +kernel)), rfl⟩
theorem mw_448 : (Cond.fieldLink "CursorRewriterModel" (172 : Nat) "CursorRewriterModel" "keyEnd" "I") ∈ kv_tb := List.mem_filter.mpr ⟨List.mem_append_right _ (List.mem_of_getElem? (i := 448) (by decide +kernel)), rfl⟩
theorem mw_449 : (Cond.fieldLink "CursorRewriterModel" (68 : Nat) "CursorRewriterModel" "from" "[I") ∈ kv_tb := List.mem_filter.mpr ⟨List.mem_append_right _ (List.mem_of_getElem? (i := 449) (by decide +kernel)), rfl⟩
theorem mw_450 : (Cond.fieldLink "CursorRewriterModel" (71 : Nat) "CursorRewriterModel" "to" "[I") ∈ kv_tb := List.mem_filter.mpr ⟨List.mem_append_right _ (List.mem_of_getElem? (i := 450) (by decide +kernel)), rfl⟩
theorem mw_516 : (Cond.methodLink "CursorRewriterLaw" (17 : Nat) ({ cls := "CursorRewriterModel", name := "code", desc := "(C)I" } : Jvm.MethodName)) ∈ kv_tb := List.mem_filter.mpr ⟨List.mem_append_right _ (List.mem_of_getElem? (i := 516) (by decide +kernel)), rfl⟩
theorem mw_517 : (Cond.instanceMethod ({ cls := "CursorRewriterModel", name := "code", desc := "(C)I" } : Jvm.MethodName)) ∈ kv_tb := List.mem_filter.mpr ⟨List.mem_append_right _ (List.mem_of_getElem? (i := 517) (by decide +kernel)), rfl⟩
theorem mw_518 : (Cond.selects "CursorRewriterModel" ({ cls := "CursorRewriterModel", name := "code", desc := "(C)I" } : Jvm.MethodName) ({ cls := "CursorRewriterModel", name := "code", desc := "(C)I" } : Jvm.MethodName)) ∈ kv_tb := List.mem_filter.mpr ⟨List.mem_append_right _ (List.mem_of_getElem? (i := 518) (by decide +kernel)), rfl⟩
theorem mw_519 : (Cond.code ({ cls := "CursorRewriterModel", name := "code", desc := "(C)I" } : Jvm.MethodName) prog_7_method_17_code (3 : Nat) (Option.some Jvm.ClassFile.FieldType.int)) ∈ kv_tb := List.mem_filter.mpr ⟨List.mem_append_right _ (List.mem_of_getElem? (i := 519) (by decide +kernel)), rfl⟩
theorem mw_520 : (Cond.methodLink "CursorRewriterModel" (144 : Nat) ({ cls := "CursorRewriterModel", name := "read", desc := "()I" } : Jvm.MethodName)) ∈ kv_tb := List.mem_filter.mpr ⟨List.mem_append_right _ (List.mem_of_getElem? (i := 520) (by decide +kernel)), rfl⟩
theorem mw_522 : (Cond.instanceMethod ({ cls := "CursorRewriterModel", name := "read", desc := "()I" } : Jvm.MethodName)) ∈ kv_tb := List.mem_filter.mpr ⟨List.mem_append_right _ (List.mem_of_getElem? (i := 522) (by decide +kernel)), rfl⟩
theorem mw_523 : (Cond.code ({ cls := "CursorRewriterModel", name := "read", desc := "()I" } : Jvm.MethodName) prog_7_method_13_code (8 : Nat) (Option.some Jvm.ClassFile.FieldType.int)) ∈ kv_tb := List.mem_filter.mpr ⟨List.mem_append_right _ (List.mem_of_getElem? (i := 523) (by decide +kernel)), rfl⟩
theorem mw_524 : (Cond.methodLink "CursorRewriterModel" (89 : Nat) ({ cls := "CursorRewriterModel", name := "capital", desc := "(I)Z" } : Jvm.MethodName)) ∈ kv_tb := List.mem_filter.mpr ⟨List.mem_append_right _ (List.mem_of_getElem? (i := 524) (by decide +kernel)), rfl⟩
theorem mw_525 : (Cond.static ({ cls := "CursorRewriterModel", name := "capital", desc := "(I)Z" } : Jvm.MethodName)) ∈ kv_tb := List.mem_filter.mpr ⟨List.mem_append_right _ (List.mem_of_getElem? (i := 525) (by decide +kernel)), rfl⟩
theorem mw_526 : (Cond.code ({ cls := "CursorRewriterModel", name := "capital", desc := "(I)Z" } : Jvm.MethodName) prog_7_method_3_code (1 : Nat) (Option.some Jvm.ClassFile.FieldType.boolean)) ∈ kv_tb := List.mem_filter.mpr ⟨List.mem_append_right _ (List.mem_of_getElem? (i := 526) (by decide +kernel)), rfl⟩
theorem mw_527 : (Cond.methodLink "CursorRewriterModel" (116 : Nat) ({ cls := "CursorRewriterModel", name := "define", desc := "()I" } : Jvm.MethodName)) ∈ kv_tb := List.mem_filter.mpr ⟨List.mem_append_right _ (List.mem_of_getElem? (i := 527) (by decide +kernel)), rfl⟩
theorem mw_529 : (Cond.instanceMethod ({ cls := "CursorRewriterModel", name := "define", desc := "()I" } : Jvm.MethodName)) ∈ kv_tb := List.mem_filter.mpr ⟨List.mem_append_right _ (List.mem_of_getElem? (i := 529) (by decide +kernel)), rfl⟩
theorem mw_530 : (Cond.code ({ cls := "CursorRewriterModel", name := "define", desc := "()I" } : Jvm.MethodName) prog_7_method_11_code (2 : Nat) (Option.some Jvm.ClassFile.FieldType.int)) ∈ kv_tb := List.mem_filter.mpr ⟨List.mem_append_right _ (List.mem_of_getElem? (i := 530) (by decide +kernel)), rfl⟩
theorem mw_531 : (Cond.methodLink "CursorRewriterModel" (105 : Nat) ({ cls := "CursorRewriterModel", name := "element", desc := "(II)I" } : Jvm.MethodName)) ∈ kv_tb := List.mem_filter.mpr ⟨List.mem_append_right _ (List.mem_of_getElem? (i := 531) (by decide +kernel)), rfl⟩
theorem mw_533 : (Cond.instanceMethod ({ cls := "CursorRewriterModel", name := "element", desc := "(II)I" } : Jvm.MethodName)) ∈ kv_tb := List.mem_filter.mpr ⟨List.mem_append_right _ (List.mem_of_getElem? (i := 533) (by decide +kernel)), rfl⟩
theorem mw_534 : (Cond.code ({ cls := "CursorRewriterModel", name := "element", desc := "(II)I" } : Jvm.MethodName) prog_7_method_8_code (4 : Nat) (Option.some Jvm.ClassFile.FieldType.int)) ∈ kv_tb := List.mem_filter.mpr ⟨List.mem_append_right _ (List.mem_of_getElem? (i := 534) (by decide +kernel)), rfl⟩
theorem mw_535 : (Cond.methodLink "CursorRewriterModel" (77 : Nat) ({ cls := "CursorRewriterModel", name := "at", desc := "(II)I" } : Jvm.MethodName)) ∈ kv_tb := List.mem_filter.mpr ⟨List.mem_append_right _ (List.mem_of_getElem? (i := 535) (by decide +kernel)), rfl⟩
theorem mw_537 : (Cond.instanceMethod ({ cls := "CursorRewriterModel", name := "at", desc := "(II)I" } : Jvm.MethodName)) ∈ kv_tb := List.mem_filter.mpr ⟨List.mem_append_right _ (List.mem_of_getElem? (i := 537) (by decide +kernel)), rfl⟩
theorem mw_538 : (Cond.code ({ cls := "CursorRewriterModel", name := "at", desc := "(II)I" } : Jvm.MethodName) prog_7_method_6_code (3 : Nat) (Option.some Jvm.ClassFile.FieldType.int)) ∈ kv_tb := List.mem_filter.mpr ⟨List.mem_append_right _ (List.mem_of_getElem? (i := 538) (by decide +kernel)), rfl⟩
theorem mw_539 : (Cond.constant "CursorRewriterModel" (88 : Nat) (67108863 : Int32)) ∈ kv_tb := List.mem_filter.mpr ⟨List.mem_append_right _ (List.mem_of_getElem? (i := 539) (by decide +kernel)), rfl⟩
theorem mw_540 : (Cond.methodLink "CursorRewriterModel" (81 : Nat) ({ cls := "CursorRewriterModel", name := "small", desc := "(I)Z" } : Jvm.MethodName)) ∈ kv_tb := List.mem_filter.mpr ⟨List.mem_append_right _ (List.mem_of_getElem? (i := 540) (by decide +kernel)), rfl⟩
theorem mw_541 : (Cond.static ({ cls := "CursorRewriterModel", name := "small", desc := "(I)Z" } : Jvm.MethodName)) ∈ kv_tb := List.mem_filter.mpr ⟨List.mem_append_right _ (List.mem_of_getElem? (i := 541) (by decide +kernel)), rfl⟩
theorem mw_542 : (Cond.code ({ cls := "CursorRewriterModel", name := "small", desc := "(I)Z" } : Jvm.MethodName) prog_7_method_2_code (1 : Nat) (Option.some Jvm.ClassFile.FieldType.boolean)) ∈ kv_tb := List.mem_filter.mpr ⟨List.mem_append_right _ (List.mem_of_getElem? (i := 542) (by decide +kernel)), rfl⟩
theorem mw_543 : (Cond.methodLink "CursorRewriterModel" (96 : Nat) ({ cls := "CursorRewriterModel", name := "brackets", desc := "(II)I" } : Jvm.MethodName)) ∈ kv_tb := List.mem_filter.mpr ⟨List.mem_append_right _ (List.mem_of_getElem? (i := 543) (by decide +kernel)), rfl⟩
theorem mw_545 : (Cond.instanceMethod ({ cls := "CursorRewriterModel", name := "brackets", desc := "(II)I" } : Jvm.MethodName)) ∈ kv_tb := List.mem_filter.mpr ⟨List.mem_append_right _ (List.mem_of_getElem? (i := 545) (by decide +kernel)), rfl⟩
theorem mw_546 : (Cond.code ({ cls := "CursorRewriterModel", name := "brackets", desc := "(II)I" } : Jvm.MethodName) prog_7_method_7_code (10 : Nat) (Option.some Jvm.ClassFile.FieldType.int)) ∈ kv_tb := List.mem_filter.mpr ⟨List.mem_append_right _ (List.mem_of_getElem? (i := 546) (by decide +kernel)), rfl⟩
theorem mw_547 : (Cond.methodLink "CursorRewriterModel" (120 : Nat) ({ cls := "CursorRewriterModel", name := "place", desc := "(I)I" } : Jvm.MethodName)) ∈ kv_tb := List.mem_filter.mpr ⟨List.mem_append_right _ (List.mem_of_getElem? (i := 547) (by decide +kernel)), rfl⟩
theorem mw_549 : (Cond.instanceMethod ({ cls := "CursorRewriterModel", name := "place", desc := "(I)I" } : Jvm.MethodName)) ∈ kv_tb := List.mem_filter.mpr ⟨List.mem_append_right _ (List.mem_of_getElem? (i := 549) (by decide +kernel)), rfl⟩
theorem mw_550 : (Cond.code ({ cls := "CursorRewriterModel", name := "place", desc := "(I)I" } : Jvm.MethodName) prog_7_method_5_code (3 : Nat) (Option.some Jvm.ClassFile.FieldType.int)) ∈ kv_tb := List.mem_filter.mpr ⟨List.mem_append_right _ (List.mem_of_getElem? (i := 550) (by decide +kernel)), rfl⟩
theorem mw_551 : (Cond.methodLink "CursorRewriterModel" (124 : Nat) ({ cls := "CursorRewriterModel", name := "replacement", desc := "(I)Z" } : Jvm.MethodName)) ∈ kv_tb := List.mem_filter.mpr ⟨List.mem_append_right _ (List.mem_of_getElem? (i := 551) (by decide +kernel)), rfl⟩
theorem mw_553 : (Cond.instanceMethod ({ cls := "CursorRewriterModel", name := "replacement", desc := "(I)Z" } : Jvm.MethodName)) ∈ kv_tb := List.mem_filter.mpr ⟨List.mem_append_right _ (List.mem_of_getElem? (i := 553) (by decide +kernel)), rfl⟩
theorem mw_554 : (Cond.code ({ cls := "CursorRewriterModel", name := "replacement", desc := "(I)Z" } : Jvm.MethodName) prog_7_method_12_code (4 : Nat) (Option.some Jvm.ClassFile.FieldType.boolean)) ∈ kv_tb := List.mem_filter.mpr ⟨List.mem_append_right _ (List.mem_of_getElem? (i := 554) (by decide +kernel)), rfl⟩
theorem mw_555 : (Cond.methodLink "CursorRewriterModel" (112 : Nat) ({ cls := "CursorRewriterModel", name := "count", desc := "(III)I" } : Jvm.MethodName)) ∈ kv_tb := List.mem_filter.mpr ⟨List.mem_append_right _ (List.mem_of_getElem? (i := 555) (by decide +kernel)), rfl⟩
theorem mw_557 : (Cond.instanceMethod ({ cls := "CursorRewriterModel", name := "count", desc := "(III)I" } : Jvm.MethodName)) ∈ kv_tb := List.mem_filter.mpr ⟨List.mem_append_right _ (List.mem_of_getElem? (i := 557) (by decide +kernel)), rfl⟩
theorem mw_558 : (Cond.code ({ cls := "CursorRewriterModel", name := "count", desc := "(III)I" } : Jvm.MethodName) prog_7_method_4_code (6 : Nat) (Option.some Jvm.ClassFile.FieldType.int)) ∈ kv_tb := List.mem_filter.mpr ⟨List.mem_append_right _ (List.mem_of_getElem? (i := 558) (by decide +kernel)), rfl⟩
theorem mw_559 : (Cond.methodLink "CursorRewriterModel" (127 : Nat) ({ cls := "CursorRewriterModel", name := "row", desc := "(IIZ)Z" } : Jvm.MethodName)) ∈ kv_tb := List.mem_filter.mpr ⟨List.mem_append_right _ (List.mem_of_getElem? (i := 559) (by decide +kernel)), rfl⟩
theorem mw_561 : (Cond.instanceMethod ({ cls := "CursorRewriterModel", name := "row", desc := "(IIZ)Z" } : Jvm.MethodName)) ∈ kv_tb := List.mem_filter.mpr ⟨List.mem_append_right _ (List.mem_of_getElem? (i := 561) (by decide +kernel)), rfl⟩
theorem mw_562 : (Cond.code ({ cls := "CursorRewriterModel", name := "row", desc := "(IIZ)Z" } : Jvm.MethodName) prog_7_method_10_code (11 : Nat) (Option.some Jvm.ClassFile.FieldType.boolean)) ∈ kv_tb := List.mem_filter.mpr ⟨List.mem_append_right _ (List.mem_of_getElem? (i := 562) (by decide +kernel)), rfl⟩
theorem mw_563 : (Cond.methodLink "CursorRewriterModel" (108 : Nat) ({ cls := "CursorRewriterModel", name := "add", desc := "(III)Z" } : Jvm.MethodName)) ∈ kv_tb := List.mem_filter.mpr ⟨List.mem_append_right _ (List.mem_of_getElem? (i := 563) (by decide +kernel)), rfl⟩
theorem mw_565 : (Cond.instanceMethod ({ cls := "CursorRewriterModel", name := "add", desc := "(III)Z" } : Jvm.MethodName)) ∈ kv_tb := List.mem_filter.mpr ⟨List.mem_append_right _ (List.mem_of_getElem? (i := 565) (by decide +kernel)), rfl⟩
theorem mw_566 : (Cond.code ({ cls := "CursorRewriterModel", name := "add", desc := "(III)Z" } : Jvm.MethodName) prog_7_method_9_code (4 : Nat) (Option.some Jvm.ClassFile.FieldType.boolean)) ∈ kv_tb := List.mem_filter.mpr ⟨List.mem_append_right _ (List.mem_of_getElem? (i := 566) (by decide +kernel)), rfl⟩
theorem mw_567 : (Cond.methodLink "CursorRewriterModel" (134 : Nat) ({ cls := "CursorRewriterModel", name := "enter", desc := "(III)I" } : Jvm.MethodName)) ∈ kv_tb := List.mem_filter.mpr ⟨List.mem_append_right _ (List.mem_of_getElem? (i := 567) (by decide +kernel)), rfl⟩
theorem mw_569 : (Cond.instanceMethod ({ cls := "CursorRewriterModel", name := "enter", desc := "(III)I" } : Jvm.MethodName)) ∈ kv_tb := List.mem_filter.mpr ⟨List.mem_append_right _ (List.mem_of_getElem? (i := 569) (by decide +kernel)), rfl⟩
theorem mw_570 : (Cond.code ({ cls := "CursorRewriterModel", name := "enter", desc := "(III)I" } : Jvm.MethodName) prog_7_method_14_code (6 : Nat) (Option.some Jvm.ClassFile.FieldType.int)) ∈ kv_tb := List.mem_filter.mpr ⟨List.mem_append_right _ (List.mem_of_getElem? (i := 570) (by decide +kernel)), rfl⟩
theorem mw_571 : (Cond.methodLink "CursorRewriterModel" (137 : Nat) ({ cls := "CursorRewriterModel", name := "masks", desc := "(II)Z" } : Jvm.MethodName)) ∈ kv_tb := List.mem_filter.mpr ⟨List.mem_append_right _ (List.mem_of_getElem? (i := 571) (by decide +kernel)), rfl⟩
theorem mw_573 : (Cond.instanceMethod ({ cls := "CursorRewriterModel", name := "masks", desc := "(II)Z" } : Jvm.MethodName)) ∈ kv_tb := List.mem_filter.mpr ⟨List.mem_append_right _ (List.mem_of_getElem? (i := 573) (by decide +kernel)), rfl⟩
theorem mw_574 : (Cond.code ({ cls := "CursorRewriterModel", name := "masks", desc := "(II)Z" } : Jvm.MethodName) prog_7_method_16_code (5 : Nat) (Option.some Jvm.ClassFile.FieldType.boolean)) ∈ kv_tb := List.mem_filter.mpr ⟨List.mem_append_right _ (List.mem_of_getElem? (i := 574) (by decide +kernel)), rfl⟩
theorem mw_575 : (Cond.methodLink "CursorRewriterModel" (141 : Nat) ({ cls := "CursorRewriterModel", name := "plain", desc := "(I)Z" } : Jvm.MethodName)) ∈ kv_tb := List.mem_filter.mpr ⟨List.mem_append_right _ (List.mem_of_getElem? (i := 575) (by decide +kernel)), rfl⟩
theorem mw_577 : (Cond.instanceMethod ({ cls := "CursorRewriterModel", name := "plain", desc := "(I)Z" } : Jvm.MethodName)) ∈ kv_tb := List.mem_filter.mpr ⟨List.mem_append_right _ (List.mem_of_getElem? (i := 577) (by decide +kernel)), rfl⟩
theorem mw_578 : (Cond.code ({ cls := "CursorRewriterModel", name := "plain", desc := "(I)Z" } : Jvm.MethodName) prog_7_method_15_code (4 : Nat) (Option.some Jvm.ClassFile.FieldType.boolean)) ∈ kv_tb := List.mem_filter.mpr ⟨List.mem_append_right _ (List.mem_of_getElem? (i := 578) (by decide +kernel)), rfl⟩
theorem mw_579 : (Cond.methodLink "CursorRewriterLaw" (22 : Nat) ({ cls := "CursorRewriterModel", name := "rules", desc := "()I" } : Jvm.MethodName)) ∈ kv_tb := List.mem_filter.mpr ⟨List.mem_append_right _ (List.mem_of_getElem? (i := 579) (by decide +kernel)), rfl⟩
theorem mw_580 : (Cond.instanceMethod ({ cls := "CursorRewriterModel", name := "rules", desc := "()I" } : Jvm.MethodName)) ∈ kv_tb := List.mem_filter.mpr ⟨List.mem_append_right _ (List.mem_of_getElem? (i := 580) (by decide +kernel)), rfl⟩
theorem mw_581 : (Cond.selects "CursorRewriterModel" ({ cls := "CursorRewriterModel", name := "rules", desc := "()I" } : Jvm.MethodName) ({ cls := "CursorRewriterModel", name := "rules", desc := "()I" } : Jvm.MethodName)) ∈ kv_tb := List.mem_filter.mpr ⟨List.mem_append_right _ (List.mem_of_getElem? (i := 581) (by decide +kernel)), rfl⟩
theorem mw_582 : (Cond.code ({ cls := "CursorRewriterModel", name := "rules", desc := "()I" } : Jvm.MethodName) prog_7_method_18_code (1 : Nat) (Option.some Jvm.ClassFile.FieldType.int)) ∈ kv_tb := List.mem_filter.mpr ⟨List.mem_append_right _ (List.mem_of_getElem? (i := 582) (by decide +kernel)), rfl⟩
theorem mw_583 : (Cond.methodLink "CursorRewriterLaw" (26 : Nat) ({ cls := "CursorRewriterModel", name := "forget", desc := "()V" } : Jvm.MethodName)) ∈ kv_tb := List.mem_filter.mpr ⟨List.mem_append_right _ (List.mem_of_getElem? (i := 583) (by decide +kernel)), rfl⟩
theorem mw_584 : (Cond.instanceMethod ({ cls := "CursorRewriterModel", name := "forget", desc := "()V" } : Jvm.MethodName)) ∈ kv_tb := List.mem_filter.mpr ⟨List.mem_append_right _ (List.mem_of_getElem? (i := 584) (by decide +kernel)), rfl⟩
theorem mw_585 : (Cond.selects "CursorRewriterModel" ({ cls := "CursorRewriterModel", name := "forget", desc := "()V" } : Jvm.MethodName) ({ cls := "CursorRewriterModel", name := "forget", desc := "()V" } : Jvm.MethodName)) ∈ kv_tb := List.mem_filter.mpr ⟨List.mem_append_right _ (List.mem_of_getElem? (i := 585) (by decide +kernel)), rfl⟩
theorem mw_586 : (Cond.code ({ cls := "CursorRewriterModel", name := "forget", desc := "()V" } : Jvm.MethodName) prog_7_method_19_code (2 : Nat) (Option.none : Option Jvm.ClassFile.FieldType)) ∈ kv_tb := List.mem_filter.mpr ⟨List.mem_append_right _ (List.mem_of_getElem? (i := 586) (by decide +kernel)), rfl⟩
theorem mw_587 : (Cond.methodLink "CursorRewriterModel" (147 : Nat) ({ cls := "CursorRewriterModel", name := "restart", desc := "()V" } : Jvm.MethodName)) ∈ kv_tb := List.mem_filter.mpr ⟨List.mem_append_right _ (List.mem_of_getElem? (i := 587) (by decide +kernel)), rfl⟩
theorem mw_588 : (Cond.instanceMethod ({ cls := "CursorRewriterModel", name := "restart", desc := "()V" } : Jvm.MethodName)) ∈ kv_tb := List.mem_filter.mpr ⟨List.mem_append_right _ (List.mem_of_getElem? (i := 588) (by decide +kernel)), rfl⟩
theorem mw_589 : (Cond.selects "CursorRewriterModel" ({ cls := "CursorRewriterModel", name := "restart", desc := "()V" } : Jvm.MethodName) ({ cls := "CursorRewriterModel", name := "restart", desc := "()V" } : Jvm.MethodName)) ∈ kv_tb := List.mem_filter.mpr ⟨List.mem_append_right _ (List.mem_of_getElem? (i := 589) (by decide +kernel)), rfl⟩
theorem mw_590 : (Cond.code ({ cls := "CursorRewriterModel", name := "restart", desc := "()V" } : Jvm.MethodName) prog_7_method_20_code (1 : Nat) (Option.none : Option Jvm.ClassFile.FieldType)) ∈ kv_tb := List.mem_filter.mpr ⟨List.mem_append_right _ (List.mem_of_getElem? (i := 590) (by decide +kernel)), rfl⟩
theorem mw_591 : (Cond.methodLink "CursorRewriterLaw" (30 : Nat) ({ cls := "CursorRewriterModel", name := "restart", desc := "()V" } : Jvm.MethodName)) ∈ kv_tb := List.mem_filter.mpr ⟨List.mem_append_right _ (List.mem_of_getElem? (i := 591) (by decide +kernel)), rfl⟩
theorem mw_592 : (Cond.methodLink "CursorRewriterLaw" (35 : Nat) ({ cls := "CursorRewriterModel", name := "write", desc := "(C)Z" } : Jvm.MethodName)) ∈ kv_tb := List.mem_filter.mpr ⟨List.mem_append_right _ (List.mem_of_getElem? (i := 592) (by decide +kernel)), rfl⟩
theorem mw_593 : (Cond.instanceMethod ({ cls := "CursorRewriterModel", name := "write", desc := "(C)Z" } : Jvm.MethodName)) ∈ kv_tb := List.mem_filter.mpr ⟨List.mem_append_right _ (List.mem_of_getElem? (i := 593) (by decide +kernel)), rfl⟩
theorem mw_594 : (Cond.selects "CursorRewriterModel" ({ cls := "CursorRewriterModel", name := "write", desc := "(C)Z" } : Jvm.MethodName) ({ cls := "CursorRewriterModel", name := "write", desc := "(C)Z" } : Jvm.MethodName)) ∈ kv_tb := List.mem_filter.mpr ⟨List.mem_append_right _ (List.mem_of_getElem? (i := 594) (by decide +kernel)), rfl⟩
theorem mw_595 : (Cond.code ({ cls := "CursorRewriterModel", name := "write", desc := "(C)Z" } : Jvm.MethodName) prog_7_method_21_code (2 : Nat) (Option.some Jvm.ClassFile.FieldType.boolean)) ∈ kv_tb := List.mem_filter.mpr ⟨List.mem_append_right _ (List.mem_of_getElem? (i := 595) (by decide +kernel)), rfl⟩
theorem mw_596 : (Cond.methodLink "CursorRewriterLaw" (74 : Nat) ({ cls := "CursorRewriterModel", name := "probe", desc := "(IZ)I" } : Jvm.MethodName)) ∈ kv_tb := List.mem_filter.mpr ⟨List.mem_append_right _ (List.mem_of_getElem? (i := 596) (by decide +kernel)), rfl⟩
theorem mw_597 : (Cond.instanceMethod ({ cls := "CursorRewriterModel", name := "probe", desc := "(IZ)I" } : Jvm.MethodName)) ∈ kv_tb := List.mem_filter.mpr ⟨List.mem_append_right _ (List.mem_of_getElem? (i := 597) (by decide +kernel)), rfl⟩
theorem mw_598 : (Cond.selects "CursorRewriterModel" ({ cls := "CursorRewriterModel", name := "probe", desc := "(IZ)I" } : Jvm.MethodName) ({ cls := "CursorRewriterModel", name := "probe", desc := "(IZ)I" } : Jvm.MethodName)) ∈ kv_tb := List.mem_filter.mpr ⟨List.mem_append_right _ (List.mem_of_getElem? (i := 598) (by decide +kernel)), rfl⟩
theorem mw_599 : (Cond.code ({ cls := "CursorRewriterModel", name := "probe", desc := "(IZ)I" } : Jvm.MethodName) prog_7_method_26_code (3 : Nat) (Option.some Jvm.ClassFile.FieldType.int)) ∈ kv_tb := List.mem_filter.mpr ⟨List.mem_append_right _ (List.mem_of_getElem? (i := 599) (by decide +kernel)), rfl⟩
theorem mw_600 : (Cond.methodLink "CursorRewriterModel" (175 : Nat) ({ cls := "CursorRewriterModel", name := "match", desc := "(IZ)I" } : Jvm.MethodName)) ∈ kv_tb := List.mem_filter.mpr ⟨List.mem_append_right _ (List.mem_of_getElem? (i := 600) (by decide +kernel)), rfl⟩
theorem mw_602 : (Cond.instanceMethod ({ cls := "CursorRewriterModel", name := "match", desc := "(IZ)I" } : Jvm.MethodName)) ∈ kv_tb := List.mem_filter.mpr ⟨List.mem_append_right _ (List.mem_of_getElem? (i := 602) (by decide +kernel)), rfl⟩
theorem mw_603 : (Cond.code ({ cls := "CursorRewriterModel", name := "match", desc := "(IZ)I" } : Jvm.MethodName) prog_7_method_25_code (8 : Nat) (Option.some Jvm.ClassFile.FieldType.int)) ∈ kv_tb := List.mem_filter.mpr ⟨List.mem_append_right _ (List.mem_of_getElem? (i := 603) (by decide +kernel)), rfl⟩
theorem mw_604 : (Cond.methodLink "CursorRewriterModel" (169 : Nat) ({ cls := "CursorRewriterModel", name := "before", desc := "(I)Z" } : Jvm.MethodName)) ∈ kv_tb := List.mem_filter.mpr ⟨List.mem_append_right _ (List.mem_of_getElem? (i := 604) (by decide +kernel)), rfl⟩
theorem mw_606 : (Cond.instanceMethod ({ cls := "CursorRewriterModel", name := "before", desc := "(I)Z" } : Jvm.MethodName)) ∈ kv_tb := List.mem_filter.mpr ⟨List.mem_append_right _ (List.mem_of_getElem? (i := 606) (by decide +kernel)), rfl⟩
theorem mw_607 : (Cond.code ({ cls := "CursorRewriterModel", name := "before", desc := "(I)Z" } : Jvm.MethodName) prog_7_method_24_code (5 : Nat) (Option.some Jvm.ClassFile.FieldType.boolean)) ∈ kv_tb := List.mem_filter.mpr ⟨List.mem_append_right _ (List.mem_of_getElem? (i := 607) (by decide +kernel)), rfl⟩
theorem mw_608 : (Cond.methodLink "CursorRewriterModel" (165 : Nat) ({ cls := "CursorRewriterModel", name := "rowOf", desc := "(IIZ)I" } : Jvm.MethodName)) ∈ kv_tb := List.mem_filter.mpr ⟨List.mem_append_right _ (List.mem_of_getElem? (i := 608) (by decide +kernel)), rfl⟩
theorem mw_610 : (Cond.instanceMethod ({ cls := "CursorRewriterModel", name := "rowOf", desc := "(IIZ)I" } : Jvm.MethodName)) ∈ kv_tb := List.mem_filter.mpr ⟨List.mem_append_right _ (List.mem_of_getElem? (i := 610) (by decide +kernel)), rfl⟩
theorem mw_611 : (Cond.code ({ cls := "CursorRewriterModel", name := "rowOf", desc := "(IIZ)I" } : Jvm.MethodName) prog_7_method_23_code (5 : Nat) (Option.some Jvm.ClassFile.FieldType.int)) ∈ kv_tb := List.mem_filter.mpr ⟨List.mem_append_right _ (List.mem_of_getElem? (i := 611) (by decide +kernel)), rfl⟩
theorem mw_612 : (Cond.methodLink "CursorRewriterModel" (162 : Nat) ({ cls := "CursorRewriterModel", name := "standsFor", desc := "(II)Z" } : Jvm.MethodName)) ∈ kv_tb := List.mem_filter.mpr ⟨List.mem_append_right _ (List.mem_of_getElem? (i := 612) (by decide +kernel)), rfl⟩
theorem mw_614 : (Cond.instanceMethod ({ cls := "CursorRewriterModel", name := "standsFor", desc := "(II)Z" } : Jvm.MethodName)) ∈ kv_tb := List.mem_filter.mpr ⟨List.mem_append_right _ (List.mem_of_getElem? (i := 614) (by decide +kernel)), rfl⟩
theorem mw_615 : (Cond.code ({ cls := "CursorRewriterModel", name := "standsFor", desc := "(II)Z" } : Jvm.MethodName) prog_7_method_22_code (3 : Nat) (Option.some Jvm.ClassFile.FieldType.boolean)) ∈ kv_tb := List.mem_filter.mpr ⟨List.mem_append_right _ (List.mem_of_getElem? (i := 615) (by decide +kernel)), rfl⟩
theorem mw_616 : (Cond.methodLink "CursorRewriterLaw" (39 : Nat) ({ cls := "CursorRewriterModel", name := "settle", desc := "()I" } : Jvm.MethodName)) ∈ kv_tb := List.mem_filter.mpr ⟨List.mem_append_right _ (List.mem_of_getElem? (i := 616) (by decide +kernel)), rfl⟩
theorem mw_617 : (Cond.instanceMethod ({ cls := "CursorRewriterModel", name := "settle", desc := "()I" } : Jvm.MethodName)) ∈ kv_tb := List.mem_filter.mpr ⟨List.mem_append_right _ (List.mem_of_getElem? (i := 617) (by decide +kernel)), rfl⟩
theorem mw_618 : (Cond.selects "CursorRewriterModel" ({ cls := "CursorRewriterModel", name := "settle", desc := "()I" } : Jvm.MethodName) ({ cls := "CursorRewriterModel", name := "settle", desc := "()I" } : Jvm.MethodName)) ∈ kv_tb := List.mem_filter.mpr ⟨List.mem_append_right _ (List.mem_of_getElem? (i := 618) (by decide +kernel)), rfl⟩
theorem mw_619 : (Cond.code ({ cls := "CursorRewriterModel", name := "settle", desc := "()I" } : Jvm.MethodName) prog_7_method_30_code (1 : Nat) (Option.some Jvm.ClassFile.FieldType.int)) ∈ kv_tb := List.mem_filter.mpr ⟨List.mem_append_right _ (List.mem_of_getElem? (i := 619) (by decide +kernel)), rfl⟩
theorem mw_620 : (Cond.methodLink "CursorRewriterModel" (185 : Nat) ({ cls := "CursorRewriterModel", name := "work", desc := "(Z)I" } : Jvm.MethodName)) ∈ kv_tb := List.mem_filter.mpr ⟨List.mem_append_right _ (List.mem_of_getElem? (i := 620) (by decide +kernel)), rfl⟩
theorem mw_622 : (Cond.instanceMethod ({ cls := "CursorRewriterModel", name := "work", desc := "(Z)I" } : Jvm.MethodName)) ∈ kv_tb := List.mem_filter.mpr ⟨List.mem_append_right _ (List.mem_of_getElem? (i := 622) (by decide +kernel)), rfl⟩
theorem mw_623 : (Cond.code ({ cls := "CursorRewriterModel", name := "work", desc := "(Z)I" } : Jvm.MethodName) prog_7_method_29_code (5 : Nat) (Option.some Jvm.ClassFile.FieldType.int)) ∈ kv_tb := List.mem_filter.mpr ⟨List.mem_append_right _ (List.mem_of_getElem? (i := 623) (by decide +kernel)), rfl⟩
theorem mw_624 : (Cond.methodLink "CursorRewriterModel" (182 : Nat) ({ cls := "CursorRewriterModel", name := "apply", desc := "(I)Z" } : Jvm.MethodName)) ∈ kv_tb := List.mem_filter.mpr ⟨List.mem_append_right _ (List.mem_of_getElem? (i := 624) (by decide +kernel)), rfl⟩
theorem mw_626 : (Cond.instanceMethod ({ cls := "CursorRewriterModel", name := "apply", desc := "(I)Z" } : Jvm.MethodName)) ∈ kv_tb := List.mem_filter.mpr ⟨List.mem_append_right _ (List.mem_of_getElem? (i := 626) (by decide +kernel)), rfl⟩
theorem mw_627 : (Cond.code ({ cls := "CursorRewriterModel", name := "apply", desc := "(I)Z" } : Jvm.MethodName) prog_7_method_28_code (8 : Nat) (Option.some Jvm.ClassFile.FieldType.boolean)) ∈ kv_tb := List.mem_filter.mpr ⟨List.mem_append_right _ (List.mem_of_getElem? (i := 627) (by decide +kernel)), rfl⟩
theorem mw_628 : (Cond.methodLink "CursorRewriterModel" (179 : Nat) ({ cls := "CursorRewriterModel", name := "given", desc := "(II)I" } : Jvm.MethodName)) ∈ kv_tb := List.mem_filter.mpr ⟨List.mem_append_right _ (List.mem_of_getElem? (i := 628) (by decide +kernel)), rfl⟩
theorem mw_630 : (Cond.instanceMethod ({ cls := "CursorRewriterModel", name := "given", desc := "(II)I" } : Jvm.MethodName)) ∈ kv_tb := List.mem_filter.mpr ⟨List.mem_append_right _ (List.mem_of_getElem? (i := 630) (by decide +kernel)), rfl⟩
theorem mw_631 : (Cond.code ({ cls := "CursorRewriterModel", name := "given", desc := "(II)I" } : Jvm.MethodName) prog_7_method_27_code (4 : Nat) (Option.some Jvm.ClassFile.FieldType.int)) ∈ kv_tb := List.mem_filter.mpr ⟨List.mem_append_right _ (List.mem_of_getElem? (i := 631) (by decide +kernel)), rfl⟩
theorem mw_632 : (Cond.methodLink "CursorRewriterLaw" (43 : Nat) ({ cls := "CursorRewriterModel", name := "finish", desc := "()I" } : Jvm.MethodName)) ∈ kv_tb := List.mem_filter.mpr ⟨List.mem_append_right _ (List.mem_of_getElem? (i := 632) (by decide +kernel)), rfl⟩
theorem mw_633 : (Cond.instanceMethod ({ cls := "CursorRewriterModel", name := "finish", desc := "()I" } : Jvm.MethodName)) ∈ kv_tb := List.mem_filter.mpr ⟨List.mem_append_right _ (List.mem_of_getElem? (i := 633) (by decide +kernel)), rfl⟩
theorem mw_634 : (Cond.selects "CursorRewriterModel" ({ cls := "CursorRewriterModel", name := "finish", desc := "()I" } : Jvm.MethodName) ({ cls := "CursorRewriterModel", name := "finish", desc := "()I" } : Jvm.MethodName)) ∈ kv_tb := List.mem_filter.mpr ⟨List.mem_append_right _ (List.mem_of_getElem? (i := 634) (by decide +kernel)), rfl⟩
theorem mw_635 : (Cond.code ({ cls := "CursorRewriterModel", name := "finish", desc := "()I" } : Jvm.MethodName) prog_7_method_31_code (1 : Nat) (Option.some Jvm.ClassFile.FieldType.int)) ∈ kv_tb := List.mem_filter.mpr ⟨List.mem_append_right _ (List.mem_of_getElem? (i := 635) (by decide +kernel)), rfl⟩
theorem mw_636 : (Cond.methodLink "CursorRewriterLaw" (47 : Nat) ({ cls := "CursorRewriterModel", name := "length", desc := "()I" } : Jvm.MethodName)) ∈ kv_tb := List.mem_filter.mpr ⟨List.mem_append_right _ (List.mem_of_getElem? (i := 636) (by decide +kernel)), rfl⟩
theorem mw_637 : (Cond.instanceMethod ({ cls := "CursorRewriterModel", name := "length", desc := "()I" } : Jvm.MethodName)) ∈ kv_tb := List.mem_filter.mpr ⟨List.mem_append_right _ (List.mem_of_getElem? (i := 637) (by decide +kernel)), rfl⟩
theorem mw_638 : (Cond.selects "CursorRewriterModel" ({ cls := "CursorRewriterModel", name := "length", desc := "()I" } : Jvm.MethodName) ({ cls := "CursorRewriterModel", name := "length", desc := "()I" } : Jvm.MethodName)) ∈ kv_tb := List.mem_filter.mpr ⟨List.mem_append_right _ (List.mem_of_getElem? (i := 638) (by decide +kernel)), rfl⟩
theorem mw_639 : (Cond.code ({ cls := "CursorRewriterModel", name := "length", desc := "()I" } : Jvm.MethodName) prog_7_method_32_code (1 : Nat) (Option.some Jvm.ClassFile.FieldType.int)) ∈ kv_tb := List.mem_filter.mpr ⟨List.mem_append_right _ (List.mem_of_getElem? (i := 639) (by decide +kernel)), rfl⟩
theorem mw_640 : (Cond.methodLink "CursorRewriterLaw" (52 : Nat) ({ cls := "CursorRewriterModel", name := "letter", desc := "(I)I" } : Jvm.MethodName)) ∈ kv_tb := List.mem_filter.mpr ⟨List.mem_append_right _ (List.mem_of_getElem? (i := 640) (by decide +kernel)), rfl⟩
theorem mw_641 : (Cond.instanceMethod ({ cls := "CursorRewriterModel", name := "letter", desc := "(I)I" } : Jvm.MethodName)) ∈ kv_tb := List.mem_filter.mpr ⟨List.mem_append_right _ (List.mem_of_getElem? (i := 641) (by decide +kernel)), rfl⟩
theorem mw_642 : (Cond.selects "CursorRewriterModel" ({ cls := "CursorRewriterModel", name := "letter", desc := "(I)I" } : Jvm.MethodName) ({ cls := "CursorRewriterModel", name := "letter", desc := "(I)I" } : Jvm.MethodName)) ∈ kv_tb := List.mem_filter.mpr ⟨List.mem_append_right _ (List.mem_of_getElem? (i := 642) (by decide +kernel)), rfl⟩
theorem mw_643 : (Cond.code ({ cls := "CursorRewriterModel", name := "letter", desc := "(I)I" } : Jvm.MethodName) prog_7_method_33_code (2 : Nat) (Option.some Jvm.ClassFile.FieldType.int)) ∈ kv_tb := List.mem_filter.mpr ⟨List.mem_append_right _ (List.mem_of_getElem? (i := 643) (by decide +kernel)), rfl⟩
theorem mw_644 : (Cond.methodLink "CursorRewriterLaw" (56 : Nat) ({ cls := "CursorRewriterModel", name := "cursor", desc := "()I" } : Jvm.MethodName)) ∈ kv_tb := List.mem_filter.mpr ⟨List.mem_append_right _ (List.mem_of_getElem? (i := 644) (by decide +kernel)), rfl⟩
theorem mw_645 : (Cond.instanceMethod ({ cls := "CursorRewriterModel", name := "cursor", desc := "()I" } : Jvm.MethodName)) ∈ kv_tb := List.mem_filter.mpr ⟨List.mem_append_right _ (List.mem_of_getElem? (i := 645) (by decide +kernel)), rfl⟩
theorem mw_646 : (Cond.selects "CursorRewriterModel" ({ cls := "CursorRewriterModel", name := "cursor", desc := "()I" } : Jvm.MethodName) ({ cls := "CursorRewriterModel", name := "cursor", desc := "()I" } : Jvm.MethodName)) ∈ kv_tb := List.mem_filter.mpr ⟨List.mem_append_right _ (List.mem_of_getElem? (i := 646) (by decide +kernel)), rfl⟩
theorem mw_647 : (Cond.code ({ cls := "CursorRewriterModel", name := "cursor", desc := "()I" } : Jvm.MethodName) prog_7_method_34_code (1 : Nat) (Option.some Jvm.ClassFile.FieldType.int)) ∈ kv_tb := List.mem_filter.mpr ⟨List.mem_append_right _ (List.mem_of_getElem? (i := 647) (by decide +kernel)), rfl⟩
theorem mw_648 : (Cond.methodLink "CursorRewriterLaw" (60 : Nat) ({ cls := "CursorRewriterModel", name := "applied", desc := "()I" } : Jvm.MethodName)) ∈ kv_tb := List.mem_filter.mpr ⟨List.mem_append_right _ (List.mem_of_getElem? (i := 648) (by decide +kernel)), rfl⟩
theorem mw_649 : (Cond.instanceMethod ({ cls := "CursorRewriterModel", name := "applied", desc := "()I" } : Jvm.MethodName)) ∈ kv_tb := List.mem_filter.mpr ⟨List.mem_append_right _ (List.mem_of_getElem? (i := 649) (by decide +kernel)), rfl⟩
theorem mw_650 : (Cond.selects "CursorRewriterModel" ({ cls := "CursorRewriterModel", name := "applied", desc := "()I" } : Jvm.MethodName) ({ cls := "CursorRewriterModel", name := "applied", desc := "()I" } : Jvm.MethodName)) ∈ kv_tb := List.mem_filter.mpr ⟨List.mem_append_right _ (List.mem_of_getElem? (i := 650) (by decide +kernel)), rfl⟩
theorem mw_651 : (Cond.code ({ cls := "CursorRewriterModel", name := "applied", desc := "()I" } : Jvm.MethodName) prog_7_method_35_code (1 : Nat) (Option.some Jvm.ClassFile.FieldType.int)) ∈ kv_tb := List.mem_filter.mpr ⟨List.mem_append_right _ (List.mem_of_getElem? (i := 651) (by decide +kernel)), rfl⟩
theorem mw_652 : (Cond.methodLink "CursorRewriterLaw" (64 : Nat) ({ cls := "CursorRewriterModel", name := "latest", desc := "()I" } : Jvm.MethodName)) ∈ kv_tb := List.mem_filter.mpr ⟨List.mem_append_right _ (List.mem_of_getElem? (i := 652) (by decide +kernel)), rfl⟩
theorem mw_653 : (Cond.instanceMethod ({ cls := "CursorRewriterModel", name := "latest", desc := "()I" } : Jvm.MethodName)) ∈ kv_tb := List.mem_filter.mpr ⟨List.mem_append_right _ (List.mem_of_getElem? (i := 653) (by decide +kernel)), rfl⟩
theorem mw_654 : (Cond.selects "CursorRewriterModel" ({ cls := "CursorRewriterModel", name := "latest", desc := "()I" } : Jvm.MethodName) ({ cls := "CursorRewriterModel", name := "latest", desc := "()I" } : Jvm.MethodName)) ∈ kv_tb := List.mem_filter.mpr ⟨List.mem_append_right _ (List.mem_of_getElem? (i := 654) (by decide +kernel)), rfl⟩
theorem mw_655 : (Cond.code ({ cls := "CursorRewriterModel", name := "latest", desc := "()I" } : Jvm.MethodName) prog_7_method_36_code (1 : Nat) (Option.some Jvm.ClassFile.FieldType.int)) ∈ kv_tb := List.mem_filter.mpr ⟨List.mem_append_right _ (List.mem_of_getElem? (i := 655) (by decide +kernel)), rfl⟩
theorem mw_656 : (Cond.methodLink "CursorRewriterLaw" (69 : Nat) ({ cls := "CursorRewriterModel", name := "stuck", desc := "()Z" } : Jvm.MethodName)) ∈ kv_tb := List.mem_filter.mpr ⟨List.mem_append_right _ (List.mem_of_getElem? (i := 656) (by decide +kernel)), rfl⟩
theorem mw_657 : (Cond.instanceMethod ({ cls := "CursorRewriterModel", name := "stuck", desc := "()Z" } : Jvm.MethodName)) ∈ kv_tb := List.mem_filter.mpr ⟨List.mem_append_right _ (List.mem_of_getElem? (i := 657) (by decide +kernel)), rfl⟩
theorem mw_658 : (Cond.selects "CursorRewriterModel" ({ cls := "CursorRewriterModel", name := "stuck", desc := "()Z" } : Jvm.MethodName) ({ cls := "CursorRewriterModel", name := "stuck", desc := "()Z" } : Jvm.MethodName)) ∈ kv_tb := List.mem_filter.mpr ⟨List.mem_append_right _ (List.mem_of_getElem? (i := 658) (by decide +kernel)), rfl⟩
theorem mw_659 : (Cond.code ({ cls := "CursorRewriterModel", name := "stuck", desc := "()Z" } : Jvm.MethodName) prog_7_method_37_code (1 : Nat) (Option.some Jvm.ClassFile.FieldType.boolean)) ∈ kv_tb := List.mem_filter.mpr ⟨List.mem_append_right _ (List.mem_of_getElem? (i := 659) (by decide +kernel)), rfl⟩
theorem sel_X4_apply : Cond.selects RX4 yX4_apply yX4_apply ∈ kv_tb := List.mem_filter.mpr ⟨List.mem_append_left _ (by decide +kernel), rfl⟩
theorem sel_X4_doAtCursor : Cond.selects RX4 yX4_doAtCursor yX4_doAtCursor ∈ kv_tb := List.mem_filter.mpr ⟨List.mem_append_left _ (by decide +kernel), rfl⟩
theorem sel_X4_endDefinition : Cond.selects RX4 yX4_endDefinition yX4_endDefinition ∈ kv_tb := List.mem_filter.mpr ⟨List.mem_append_left _ (by decide +kernel), rfl⟩
theorem sel_X4_endRule : Cond.selects RX4 yX4_endRule yX4_endRule ∈ kv_tb := List.mem_filter.mpr ⟨List.mem_append_left _ (by decide +kernel), rfl⟩
theorem sel_X4_isMasked : Cond.selects RX4 yX4_isMasked yX4_isMasked ∈ kv_tb := List.mem_filter.mpr ⟨List.mem_append_left _ (by decide +kernel), rfl⟩
theorem sel_X4_rewrite : Cond.selects RX4 yX4_rewrite yX4_rewrite ∈ kv_tb := List.mem_filter.mpr ⟨List.mem_append_left _ (by decide +kernel), rfl⟩
theorem sel_X0_takeBefore : Cond.selects RX0 yX0_takeBefore yX0_takeBefore ∈ kv_tb := List.mem_filter.mpr ⟨List.mem_append_left _ (by decide +kernel), rfl⟩
theorem sel_X0_takeOnward : Cond.selects RX0 yX0_takeOnward yX0_takeOnward ∈ kv_tb := List.mem_filter.mpr ⟨List.mem_append_left _ (by decide +kernel), rfl⟩
theorem sel_X2_hasOpeningBrace : Cond.selects RX2 yX2_hasOpeningBrace yX2_hasOpeningBrace ∈ kv_tb := List.mem_filter.mpr ⟨List.mem_append_left _ (by decide +kernel), rfl⟩
theorem sel_X2_next : Cond.selects RX2 yX2_next yX2_next ∈ kv_tb := List.mem_filter.mpr ⟨List.mem_append_left _ (by decide +kernel), rfl⟩
theorem sel_X2_readBrackets : Cond.selects RX2 yX2_readBrackets yX2_readBrackets ∈ kv_tb := List.mem_filter.mpr ⟨List.mem_append_left _ (by decide +kernel), rfl⟩
theorem sel_X2_readContext : Cond.selects RX2 yX2_readContext yX2_readContext ∈ kv_tb := List.mem_filter.mpr ⟨List.mem_append_left _ (by decide +kernel), rfl⟩
theorem sel_X2_readElement : Cond.selects RX2 yX2_readElement yX2_readElement ∈ kv_tb := List.mem_filter.mpr ⟨List.mem_append_left _ (by decide +kernel), rfl⟩
theorem sel_X2_readKey : Cond.selects RX2 yX2_readKey yX2_readKey ∈ kv_tb := List.mem_filter.mpr ⟨List.mem_append_left _ (by decide +kernel), rfl⟩
theorem sel_X2_readQuantifier : Cond.selects RX2 yX2_readQuantifier yX2_readQuantifier ∈ kv_tb := List.mem_filter.mpr ⟨List.mem_append_left _ (by decide +kernel), rfl⟩
theorem sel_X2_readReplacement : Cond.selects RX2 yX2_readReplacement yX2_readReplacement ∈ kv_tb := List.mem_filter.mpr ⟨List.mem_append_left _ (by decide +kernel), rfl⟩
theorem sel_X2_skip : Cond.selects RX2 yX2_skip yX2_skip ∈ kv_tb := List.mem_filter.mpr ⟨List.mem_append_left _ (by decide +kernel), rfl⟩
theorem sel_X3_putPiece : Cond.selects RX3 yX3_putPiece yX3_putPiece ∈ kv_tb := List.mem_filter.mpr ⟨List.mem_append_left _ (by decide +kernel), rfl⟩
theorem sel_X5_add : Cond.selects RX5 yX5_add yX5_add ∈ kv_tb := List.mem_filter.mpr ⟨List.mem_append_left _ (by decide +kernel), rfl⟩
theorem sel_X5_apply : Cond.selects RX5 yX5_apply yX5_apply ∈ kv_tb := List.mem_filter.mpr ⟨List.mem_append_left _ (by decide +kernel), rfl⟩
theorem sel_X5_at : Cond.selects RX5 yX5_at yX5_at ∈ kv_tb := List.mem_filter.mpr ⟨List.mem_append_left _ (by decide +kernel), rfl⟩
theorem sel_X5_before : Cond.selects RX5 yX5_before yX5_before ∈ kv_tb := List.mem_filter.mpr ⟨List.mem_append_left _ (by decide +kernel), rfl⟩
theorem sel_X5_brackets : Cond.selects RX5 yX5_brackets yX5_brackets ∈ kv_tb := List.mem_filter.mpr ⟨List.mem_append_left _ (by decide +kernel), rfl⟩
theorem sel_X5_count : Cond.selects RX5 yX5_count yX5_count ∈ kv_tb := List.mem_filter.mpr ⟨List.mem_append_left _ (by decide +kernel), rfl⟩
theorem sel_X5_define : Cond.selects RX5 yX5_define yX5_define ∈ kv_tb := List.mem_filter.mpr ⟨List.mem_append_left _ (by decide +kernel), rfl⟩
theorem sel_X5_element : Cond.selects RX5 yX5_element yX5_element ∈ kv_tb := List.mem_filter.mpr ⟨List.mem_append_left _ (by decide +kernel), rfl⟩
theorem sel_X5_enter : Cond.selects RX5 yX5_enter yX5_enter ∈ kv_tb := List.mem_filter.mpr ⟨List.mem_append_left _ (by decide +kernel), rfl⟩
theorem sel_X5_given : Cond.selects RX5 yX5_given yX5_given ∈ kv_tb := List.mem_filter.mpr ⟨List.mem_append_left _ (by decide +kernel), rfl⟩
theorem sel_X5_masks : Cond.selects RX5 yX5_masks yX5_masks ∈ kv_tb := List.mem_filter.mpr ⟨List.mem_append_left _ (by decide +kernel), rfl⟩
theorem sel_X5_match : Cond.selects RX5 yX5_match yX5_match ∈ kv_tb := List.mem_filter.mpr ⟨List.mem_append_left _ (by decide +kernel), rfl⟩
theorem sel_X5_place : Cond.selects RX5 yX5_place yX5_place ∈ kv_tb := List.mem_filter.mpr ⟨List.mem_append_left _ (by decide +kernel), rfl⟩
theorem sel_X5_plain : Cond.selects RX5 yX5_plain yX5_plain ∈ kv_tb := List.mem_filter.mpr ⟨List.mem_append_left _ (by decide +kernel), rfl⟩
theorem sel_X5_read : Cond.selects RX5 yX5_read yX5_read ∈ kv_tb := List.mem_filter.mpr ⟨List.mem_append_left _ (by decide +kernel), rfl⟩
theorem sel_X5_replacement : Cond.selects RX5 yX5_replacement yX5_replacement ∈ kv_tb := List.mem_filter.mpr ⟨List.mem_append_left _ (by decide +kernel), rfl⟩
theorem sel_X5_row : Cond.selects RX5 yX5_row yX5_row ∈ kv_tb := List.mem_filter.mpr ⟨List.mem_append_left _ (by decide +kernel), rfl⟩
theorem sel_X5_rowOf : Cond.selects RX5 yX5_rowOf yX5_rowOf ∈ kv_tb := List.mem_filter.mpr ⟨List.mem_append_left _ (by decide +kernel), rfl⟩
theorem sel_X5_standsFor : Cond.selects RX5 yX5_standsFor yX5_standsFor ∈ kv_tb := List.mem_filter.mpr ⟨List.mem_append_left _ (by decide +kernel), rfl⟩
theorem sel_X5_work : Cond.selects RX5 yX5_work yX5_work ∈ kv_tb := List.mem_filter.mpr ⟨List.mem_append_left _ (by decide +kernel), rfl⟩
theorem kv_goodC {c0 cy : Cond} (hy : cy ∈ kv_tb) : GoodIn (c0 :: kv_tb) (cy :: kv_tb) := fun w hw => by
  have h : w ∈ kv_tb := (List.mem_cons.mp hw).elim (fun e => by rw [e]; exact hy) id
  exact ⟨List.mem_cons_of_mem _ h, good_of_word (kv_goodW h)⟩
theorem kv_goodCL {cy : Cond} (hy : cy ∈ kv_tb) : GoodIn kv_tb (cy :: kv_tb) := fun w hw => by
  have h : w ∈ kv_tb := (List.mem_cons.mp hw).elim (fun e => by rw [e]; exact hy) id
  exact ⟨h, good_of_word (kv_goodW h)⟩
theorem kv_goodV {own C : String} {index : Nat} {y : MethodName} {c0 cy : Cond} (h1 : Cond.methodLink own index y ∈ kv_tb) (h2 : Cond.instanceMethod y ∈ kv_tb) (h3 : Cond.selects C y y ∈ kv_tb) (h4 : Cond.initialized C ∈ kv_tb) (h5 : cy ∈ kv_tb) : GoodIn (c0 :: kv_tb) (wsV own index C y (cy :: kv_tb)) := fun w hw => by
  have h : w ∈ kv_tb := by
    unfold wsV at hw
    simp only [List.mem_append, List.mem_cons, List.not_mem_nil, or_false] at hw
    rcases hw with (rfl | rfl | rfl | rfl) | rfl | hw
    · exact h1
    · exact h2
    · exact h3
    · exact h4
    · exact h5
    · exact hw
  exact ⟨List.mem_cons_of_mem _ h, good_of_word (kv_goodW h)⟩
theorem kv_goodVL {own C : String} {index : Nat} {y : MethodName} {cy : Cond} (h1 : Cond.methodLink own index y ∈ kv_tb) (h2 : Cond.instanceMethod y ∈ kv_tb) (h3 : Cond.selects C y y ∈ kv_tb) (h4 : Cond.initialized C ∈ kv_tb) (h5 : cy ∈ kv_tb) : GoodIn kv_tb (wsV own index C y (cy :: kv_tb)) := fun w hw => by
  have h := (kv_goodV (c0 := cy) h1 h2 h3 h4 h5) w hw
  have h6 : w ∈ kv_tb := (List.mem_cons.mp h.1).elim (fun e => by rw [e]; exact h5) id
  exact ⟨h6, h.2⟩
theorem kv_goodS {own : String} {index : Nat} {y : MethodName} {c0 cy : Cond} (h1 : Cond.methodLink own index y ∈ kv_tb) (h2 : Cond.static y ∈ kv_tb) (h4 : Cond.initialized own ∈ kv_tb) (h5 : cy ∈ kv_tb) : GoodIn (c0 :: kv_tb) (wsS own index y (cy :: kv_tb)) := fun w hw => by
  have h : w ∈ kv_tb := by
    unfold wsS at hw
    simp only [List.mem_append, List.mem_cons, List.not_mem_nil, or_false] at hw
    rcases hw with (rfl | rfl | rfl) | rfl | hw
    · exact h1
    · exact h2
    · exact h4
    · exact h5
    · exact hw
  exact ⟨List.mem_cons_of_mem _ h, good_of_word (kv_goodW h)⟩
end
section
/-! A picture of the machine: cells are numbered from 1 on (0: the script), values, locals, stack and cells with these numbers; a denotation of 'from this pc to the return' is a relation. -/
abbrev kv_H : Type := (Nat → va_E) × Nat × Nat
abbrev kv_D : Type := List (Option Value) → List Value → kv_H → Option Value → kv_H → Prop
abbrev kv_M : Type := List Value → kv_H → Option Value → kv_H → Prop
abbrev kv_Y0 : Type := (Nat → Int32) ⊕ (Nat → Int64) ⊕ (Nat → UInt32) ⊕ (Nat → UInt64) ⊕ (Nat → Option Nat)
def kv_a (b S : Nat) (a : Nat) : Nat := match a with
  | 0 => b
  | k + 1 => S + k
def kv_v (b S : Nat) (v : Value) : Value := match v with
  | .ref a => .ref (kv_a b S a)
  | .int x => .int x
  | .long x => .long x
  | .float x => .float x
  | .double x => .double x
  | .null => .null
  | .retAddr x => .retAddr x
def kv_x (b S : Nat) (x : kv_Y0) : kv_Y0 := match x with
  | .inl f => .inl f
  | .inr (.inl f) => .inr (.inl f)
  | .inr (.inr (.inl f)) => .inr (.inr (.inl f))
  | .inr (.inr (.inr (.inl f))) => .inr (.inr (.inr (.inl f)))
  | .inr (.inr (.inr (.inr f))) => .inr (.inr (.inr (.inr (fun j => (f j).map (kv_a b S)))))
def kv_e (b S : Nat) (dA : Nat → ClassId) (e : va_E) : va_E := match e with
  | .inl q => .inl (dA q.1, q.2.1, kv_x b S q.2.2)
  | .inr q => .inr (q.1, q.2.map (kv_v b S))
def kv_w (b S : Nat) (dA : Nat → ClassId) (h : kv_H) : va_W := (List.range h.2.1).map (fun k => (S + k, kv_e b S dA (h.1 (k + 1))))
def kv_g (h : kv_H) (a : Nat) : Option va_E := if 1 ≤ a ∧ a ≤ h.2.1 then some (h.1 a) else none
def kv_p (h : kv_H) (a : Nat) (e : va_E) : kv_H := (va_up h.1 a e, h.2)
def kv_n (h : kv_H) (e : va_E) (z : Nat) : kv_H := (va_up h.1 (h.2.1 + 1) e, h.2.1 + 1, h.2.2 + z)
def kv_T (dA : Nat → ClassId) : List (ClassId × FieldType) := kv_tl.zipIdx.map (fun q => (dA q.2, q.1))
theorem kv_T_at {dA : Nat → ClassId} {t : Nat} {ty : FieldType} (h : kv_tl[t]? = some ty) : (kv_T dA)[t]? = some (dA t, ty) := by
  simp [kv_T, h]
theorem kv_cat (b S : Nat) (v : Value) : (kv_v b S v).category = v.category := by cases v <;> rfl
theorem kv_cats (b S : Nat) (l : List Value) : ((l.map (kv_v b S)).map fun v => v.category).sum = (l.map fun v => v.category).sum := by
  rw [List.map_map]
  congr 1
  apply List.map_congr_left
  intro v _
  exact kv_cat b S v
theorem kv_narrow {b S : Nat} {ty : FieldType} {v : Value} (h : narrow ty v = v) : narrow ty (kv_v b S v) = kv_v b S v := by
  cases v <;> first | exact h | (cases ty <;> rfl)
theorem kv_fits {b S : Nat} {ty : FieldType} {v : Value} (h : fits ty v = true) : fits ty (kv_v b S v) = true := by
  cases v <;> first | exact h | (cases ty <;> first | rfl | exact h)
theorem kv_g_le {h : kv_H} {a : Nat} {e : va_E} (hg : kv_g h a = some e) : 1 ≤ a ∧ a ≤ h.2.1 ∧ h.1 a = e := by
  unfold kv_g at hg
  split at hg
  · rename_i hc
    exact ⟨hc.1, hc.2, Option.some.inj hg⟩
  · cases hg
theorem kv_a_pos (b S : Nat) {a : Nat} (h : 1 ≤ a) : kv_a b S a = S + (a - 1) := by
  cases a with
  | zero => omega
  | succ k => simp [kv_a]
theorem kv_w_get {b S : Nat} {dA : Nat → ClassId} {h : kv_H} {a : Nat} {e : va_E} (hg : kv_g h a = some e) : (kv_w b S dA h)[a - 1]? = some (kv_a b S a, kv_e b S dA e) := by
  obtain ⟨h1, h2, rfl⟩ := kv_g_le hg
  unfold kv_w
  rw [List.getElem?_map, List.getElem?_range (by omega), kv_a_pos b S h1]
  simp [show a - 1 + 1 = a by omega]
theorem kv_w_len {b S : Nat} {dA : Nat → ClassId} {h : kv_H} : (kv_w b S dA h).length = h.2.1 := by simp [kv_w]
theorem kv_w_at {b S : Nat} {dA : Nat → ClassId} {h : kv_H} {k : Nat} {q : Nat × va_E} (hq : (kv_w b S dA h)[k]? = some q) : k < h.2.1 ∧ q = (S + k, kv_e b S dA (h.1 (k + 1))) := by
  have hl := (List.getElem?_eq_some_iff.mp hq).1
  rw [kv_w_len] at hl
  unfold kv_w at hq
  rw [List.getElem?_map, List.getElem?_range hl] at hq
  exact ⟨hl, (Option.some.inj hq).symm⟩
theorem kv_w_set {b S : Nat} {dA : Nat → ClassId} {h : kv_H} {a : Nat} {e0 : va_E} (e : va_E) (hg : kv_g h a = some e0) : (kv_w b S dA h).set (a - 1) (kv_a b S a, kv_e b S dA e) = kv_w b S dA (kv_p h a e) := by
  obtain ⟨h1, h2, -⟩ := kv_g_le hg
  apply List.ext_getElem?
  intro k
  by_cases hk : k < h.2.1
  · have hr : (kv_w b S dA (kv_p h a e))[k]? = some (S + k, kv_e b S dA (va_up h.1 a e (k + 1))) := by
      unfold kv_w
      rw [List.getElem?_map, List.getElem?_range (by exact hk)]
      rfl
    rw [hr]
    by_cases hka : k = a - 1
    · subst hka
      rw [List.getElem?_set_self (by rw [kv_w_len]; exact hk), kv_a_pos b S h1]
      rw [show a - 1 + 1 = a by omega, va_up_self]
    · rw [List.getElem?_set_ne (Ne.symm hka)]
      unfold kv_w
      rw [List.getElem?_map, List.getElem?_range hk, va_up_ne _ _ (by omega)]
      rfl
  · rw [List.getElem?_eq_none (by simp [kv_w_len]; omega), List.getElem?_eq_none (by rw [kv_w_len]; show h.2.1 ≤ k; omega)]
theorem kv_w_new {b S : Nat} {dA : Nat → ClassId} {h : kv_H} (e : va_E) (z : Nat) : kv_w b S dA (kv_n h e z) = kv_w b S dA h ++ [(S + h.2.1, kv_e b S dA e)] := by
  unfold kv_w kv_n
  simp only [List.range_succ, List.map_append, List.map_cons, List.map_nil, va_up_self]
  congr 1
  apply List.map_congr_left
  intro k hk
  rw [va_up_ne _ _ (by have := List.mem_range.mp hk; omega)]
theorem kv_w_D (b S : Nat) (dA : Nat → ClassId) (h : kv_H) : va_D (fun q => S ≤ q) (kv_w b S dA h) := by
  refine ⟨fun i j p q hi hj hpq => ?_, fun k q hk => ?_⟩
  · obtain ⟨-, rfl⟩ := kv_w_at hi
    obtain ⟨-, rfl⟩ := kv_w_at hj
    dsimp only at hpq
    omega
  · obtain ⟨-, rfl⟩ := kv_w_at hk
    show S ≤ S + k
    omega
/-! locals -/
def kv_L (b S : Nat) (ls : Array Slot) (nL : Nat) (L : List (Option Value)) : Prop := ls.size = nL ∧ lv_wf ls ∧ L.length = nL ∧ ∀ (i : Nat) (v : Value), L[i]? = some (some v) → v.category = 1 → ls[i]? = some (.val (kv_v b S v))
def kv_lv (b S nL : Nat) (L : List (Option Value)) : List (Nat × Value) := (List.range nL).filterMap (fun j => match L[j]? with
  | some (some v) => if v.category = 1 then some (j, kv_v b S v) else none
  | _ => none)
theorem kv_lv_mem {b S nL : Nat} {L : List (Option Value)} {j : Nat} {v : Value} (hj : j < nL) (h : L[j]? = some (some v)) (hc : v.category = 1) : (j, kv_v b S v) ∈ kv_lv b S nL L := by
  refine List.mem_filterMap.mpr ⟨j, List.mem_range.mpr hj, ?_⟩
  rw [h]
  simp [hc]
theorem kv_lv_has {b S nL : Nat} {ls : Array Slot} {L : List (Option Value)} (h : kv_L b S ls nL L) : lv_has ls nL (kv_lv b S nL L) := by
  obtain ⟨h1, h2, h3, h4⟩ := h
  refine ⟨h1, h2, fun q hq => ?_⟩
  obtain ⟨j, -, hj⟩ := List.mem_filterMap.mp hq
  split at hj
  · rename_i v hv
    split at hj
    · rename_i hc
      cases hj
      exact h4 j v hv hc
    · cases hj
  · cases hj
theorem kv_lv_set {b S nL : Nat} {ls ls' : Array Slot} {L : List (Option Value)} {i : Nat} {x : Value} (h : kv_L b S ls nL L) (h' : lv_has ls' nL ((i, kv_v b S x) :: (kv_lv b S nL L).filter (fun q => !(q.1 == i) && !(q.1 + 1 == i && q.2.category == 2)))) : kv_L b S ls' nL (L.set i (some x)) := by
  obtain ⟨h1, h2, h3, h4⟩ := h
  obtain ⟨g1, g2, g3⟩ := h'
  refine ⟨g1, g2, by rw [List.length_set]; exact h3, fun j v hv hc => ?_⟩
  by_cases hji : j = i
  · subst hji
    have hl : j < (L.set j (some x)).length := (List.getElem?_eq_some_iff.mp hv).1
    rw [List.length_set] at hl
    rw [List.getElem?_set_self hl] at hv
    cases hv
    exact g3 (j, kv_v b S x) List.mem_cons_self
  · rw [List.getElem?_set_ne (Ne.symm hji)] at hv
    have hl : j < L.length := (List.getElem?_eq_some_iff.mp hv).1
    have hm := kv_lv_mem (b := b) (S := S) (nL := nL) (by omega) hv hc
    refine g3 (j, kv_v b S v) (List.mem_cons_of_mem _ (List.mem_filter.mpr ⟨hm, ?_⟩))
    simp [hji, kv_cat, hc]
/-! words of private members of nest mates, and of arrays of objects: not words of a contract's list, so they stand in its premise -/
def kv_nw (U : State) : Prop := ∀ w ∈ kv_nl, w.before #[] U = true
theorem kv_nw_warm {s U : State} (hW : s.WarmedH U.vm) (h : kv_nw s) : kv_nw U := fun w hw => by
  have h1 := h w hw
  have h2 := (List.mem_filter.mp hw).2
  cases w <;> first | exact va_Nw.warmF hW h1 | exact va_Nw.warmM hW h1 | exact (Bool.false_ne_true h2).elim | (rename_i t; cases t <;> first | exact va_AO.moved hW.alike h1 | exact (Bool.false_ne_true h2).elim)
theorem kv_nw_vm {u U : State} (hv : u.vm = U.vm) (h : kv_nw u) : kv_nw U := fun w hw => by
  have h1 := h w hw
  have h2 := (List.mem_filter.mp hw).2
  have hal : u.vm.Alike U.vm := by rw [hv]; exact Vm.Alike.refl _
  cases w <;> first | exact (Bool.false_ne_true h2).elim | exact va_Nw.same rfl hv h1 | (rename_i t; cases t <;> first | exact va_AO.moved hal h1 | exact (Bool.false_ne_true h2).elim)
/-! the judgement -/
def kv_X (cc : ByteArray) (nL : Nat) (own : String) (Ts : List Cond) (ret : Option FieldType) (ini : Bool) (fr lo : Nat) (sc : Option (Nat × (Nat → Int32))) (p : Program) (R : Room) (s : State) (m : MethodId) (args : Array Value) (meth : Method) (c : Code) (b S n0 : Nat) (dC : Nat → ClassId) (dI : Nat → Nat → Nat) (dA : Nat → ClassId) : Prop :=
  p.tables.exec = Jvm.exec ∧ c.code = cc ∧ c.maxLocals = nL ∧ s.vm.findClass own = some m.cls ∧ (∀ w ∈ Ts, w.before args s = true) ∧ meth.sig.returnType = ret ∧ (ini = true → meth.name = "<init>") ∧ fr ≤ R.frames ∧ lo ≤ R.locals ∧ (va_K (dC, dI) vwCl (kv_T dA) s ∧ kv_nw s) ∧ s.heap.size = S + n0 ∧ ∀ (N : Nat) (xs : Nat → Int32), sc = some (N, xs) → va_X b N xs s s.heap ∧ b < s.heap.size ∧ b < S
def kv_Y (nL b S n0 z0 : Nat) (dC : Nat → ClassId) (dI : Nat → Nat → Nat) (dA : Nat → ClassId) (s : State) (L : List (Option Value)) (h : kv_H) (ls : Array Slot) (H : Heap) (locs : List Loc) (cells slots : Nat) : Prop :=
  kv_L b S ls nL L ∧ va_P (dC, dI) vwCl (kv_w b S dA h) H ∧ H.size = S + h.2.1 ∧ va_S (fun q => S ≤ q) s.heap H locs ∧ cells + n0 = h.2.1 ∧ slots + z0 = h.2.2
def kv_r (cc : ByteArray) (ret : Option FieldType) (pc : Nat) (v : Option Value) : Prop :=
  (v = none ∧ ret = none ∧ decode cc pc = .ok (.return_, 1)) ∨ (∃ (x : Int32) (ty : FieldType), v = some (.int x) ∧ ret = some ty ∧ narrow ty (.int x) = .int x ∧ decode cc pc = .ok (.ireturn, 1)) ∨ (∃ (a : Nat) (ty : FieldType), v = some (.ref a) ∧ ret = some ty ∧ ((∃ n, ty = .object n) ∨ ∃ t, ty = .array t) ∧ decode cc pc = .ok (.areturn, 1))
def kv_S (cc : ByteArray) (nL : Nat) (own : String) (Ts : List Cond) (ret : Option FieldType) (ini : Bool) (fr lo : Nat) (sc : Option (Nat × (Nat → Int32))) (pc : Nat) (F : kv_D) : Prop :=
  ∀ (L : List (Option Value)) (st : List Value) (h : kv_H) (v : Option Value) (h' : kv_H), F L st h v h' → (h.2.1 ≤ h'.2.1 ∧ h.2.2 ≤ h'.2.2) ∧
    ∀ (p : Program) (l : Launch) (e : Env) (R : Room) (s : State) (m : MethodId) (args : Array Value) (below : List Frame) (meth : Method) (c : Code) (b S n0 z0 : Nat) (dC : Nat → ClassId) (dI : Nat → Nat → Nat) (dA : Nat → ClassId) (Q : State → Prop),
      kv_X cc nL own Ts ret ini fr lo sc p R s m args meth c b S n0 dC dI dA → h'.2.1 ≤ R.cells + n0 → h'.2.2 ≤ R.slots + z0 →
      (∀ (pc' : Nat) (ls' : Array Slot) (L' : List (Option Value)) (H' : Heap) (locs' : List Loc) (cells' slots' : Nat), kv_r cc ret pc' v → kv_Y nL b S n0 z0 dC dI dA s L' h' ls' H' locs' cells' slots' → W p l e R s m args below meth c H' locs' cells' slots' Q (F0 m pc' ls' (v.toList.map (kv_v b S)))) →
      ∀ (ls : Array Slot) (H : Heap) (locs : List Loc) (cells slots : Nat), kv_Y nL b S n0 z0 dC dI dA s L h ls H locs cells slots → W p l e R s m args below meth c H locs cells slots Q (F0 m pc ls (st.map (kv_v b S)))
/-- a step of stack and locals alone -/
def kv_st (cc : ByteArray) (nL : Nat) (own : String) (Ts : List Cond) (ret : Option FieldType) (ini : Bool) (fr lo : Nat) (sc : Option (Nat × (Nat → Int32))) (pc : Nat) (L : List (Option Value)) (st : List Value) (h : kv_H) (pc' : Nat) (L' : List (Option Value)) (st' : List Value) : Prop :=
  ∀ (p : Program) (l : Launch) (e : Env) (R : Room) (s : State) (m : MethodId) (args : Array Value) (below : List Frame) (meth : Method) (c : Code) (b S n0 z0 : Nat) (dC : Nat → ClassId) (dI : Nat → Nat → Nat) (dA : Nat → ClassId) (Q : State → Prop),
      kv_X cc nL own Ts ret ini fr lo sc p R s m args meth c b S n0 dC dI dA →
      ∀ (ls : Array Slot) (H : Heap) (locs : List Loc) (cells slots : Nat), cells ≤ R.cells → slots ≤ R.slots → kv_Y nL b S n0 z0 dC dI dA s L h ls H locs cells slots →
      (∀ ls' : Array Slot, kv_L b S ls' nL L' → W p l e R s m args below meth c H locs cells slots Q (F0 m pc' ls' (st'.map (kv_v b S)))) →
      W p l e R s m args below meth c H locs cells slots Q (F0 m pc ls (st.map (kv_v b S)))
section KVA
variable {cc : ByteArray} {nL : Nat} {own : String} {Ts : List Cond} {ret : Option FieldType} {ini : Bool} {fr lo : Nat} {sc : Option (Nat × (Nat → Int32))} {pc : Nat}
theorem kv_mk {F : kv_D} (hF : ∀ (L : List (Option Value)) (st : List Value) (h : kv_H) (v : Option Value) (h' : kv_H), F L st h v h' → ∃ (pc' : Nat) (G : kv_D) (L' : List (Option Value)) (st' : List Value), kv_S cc nL own Ts ret ini fr lo sc pc' G ∧ G L' st' h v h' ∧ kv_st cc nL own Ts ret ini fr lo sc pc L st h pc' L' st') : kv_S cc nL own Ts ret ini fr lo sc pc F := by
  intro L st h v h' hf
  obtain ⟨pc', G, L', st', hG, g1, g2⟩ := hF L st h v h' hf
  obtain ⟨mono, snd⟩ := hG L' st' h v h' g1
  refine ⟨mono, ?_⟩
  intro p l e R s m args below meth c b S n0 z0 dC dI dA Q X hc hz kr ls H locs cells slots Y
  have Y0 := Y
  obtain ⟨y1, y2, y3, y4, y5, y6⟩ := Y
  refine g2 p l e R s m args below meth c b S n0 z0 dC dI dA Q X ls H locs cells slots (by omega) (by omega) Y0 (fun ls' hl' => ?_)
  exact snd p l e R s m args below meth c b S n0 z0 dC dI dA Q X hc hz kr ls' H locs cells slots ⟨hl', y2, y3, y4, y5, y6⟩
/-- what the machine's own book says of the heap's size -/
theorem kv_size {p : Program} {l : Launch} {e : Env} {R : Room} {s : State} {m : MethodId} {args : Array Value} {below : List Frame} {meth : Method} {c : Code} {H : Heap} {locs : List Loc} {cells slots : Nat} {Q : State → Prop} {g : JFrame} (kk : H.size ≤ s.heap.size + cells → W p l e R s m args below meth c H locs cells slots Q g) : W p l e R s m args below meth c H locs cells slots Q g :=
  fun T hT X => kk (by have h := X.same.2.2.1; rw [← hT]; exact h) T hT X
theorem kv_none : kv_S cc nL own Ts ret ini fr lo sc pc (fun _ _ _ _ _ => False) := fun _ _ _ _ _ h => h.elim
end KVA
end
section
section KVB
variable {cc : ByteArray} {nL : Nat} {own : String} {Ts : List Cond} {ret : Option FieldType} {ini : Bool} {fr lo : Nat} {sc : Option (Nat × (Nat → Int32))} {pc : Nat} {F G : kv_D}
def o_const (x : Int32) (F : kv_D) : kv_D := fun L st h v h' => F L (.int x :: st) h v h'
theorem k_iconst {n : Int} {x : Int32} (d : decode cc pc = .ok (.iconst n, 1)) (hx : Int32.ofInt n = x) (k : kv_S cc nL own Ts ret ini fr lo sc (pc + 1) F) : kv_S cc nL own Ts ret ini fr lo sc pc (o_const x F) := kv_mk (fun L st h v h' hF => ⟨_, F, _, _, k, hF, fun p l e R s m args below meth c b S n0 z0 dC dI dA Q X ls H locs cells slots hc hs Y kk => lv_iconst X.1 X.2.1 d hx (kk ls Y.1)⟩)
theorem k_bipush {n : Int} {x : Int32} (d : decode cc pc = .ok (.bipush n, 2)) (hx : (Int8.ofInt n).toInt32 = x) (k : kv_S cc nL own Ts ret ini fr lo sc (pc + 2) F) : kv_S cc nL own Ts ret ini fr lo sc pc (o_const x F) := kv_mk (fun L st h v h' hF => ⟨_, F, _, _, k, hF, fun p l e R s m args below meth c b S n0 z0 dC dI dA Q X ls H locs cells slots hc hs Y kk => lv_bipush X.1 X.2.1 d hx (kk ls Y.1)⟩)
theorem k_sipush {n : Int} {x : Int32} (d : decode cc pc = .ok (.sipush n, 3)) (hx : (Int16.ofInt n).toInt32 = x) (k : kv_S cc nL own Ts ret ini fr lo sc (pc + 3) F) : kv_S cc nL own Ts ret ini fr lo sc pc (o_const x F) := kv_mk (fun L st h v h' hF => ⟨_, F, _, _, k, hF, fun p l e R s m args below meth c b S n0 z0 dC dI dA Q X ls H locs cells slots hc hs Y kk => lv_sipush X.1 X.2.1 d hx (kk ls Y.1)⟩)
theorem k_ldc {index : Nat} {x : Int32} (d : decode cc pc = .ok (.ldc index, 2)) (hx : Cond.constant own index x ∈ Ts) (k : kv_S cc nL own Ts ret ini fr lo sc (pc + 2) F) : kv_S cc nL own Ts ret ini fr lo sc pc (o_const x F) := kv_mk (fun L st h v h' hF => ⟨_, F, _, _, k, hF, fun p l e R s m args below meth c b S n0 z0 dC dI dA Q X ls H locs cells slots hc hs Y kk => lv_ldc X.1 X.2.1 X.2.2.2.1 (X.2.2.2.2.1 _ hx) d (kk ls Y.1)⟩)
def o_iload (i : Nat) (F : kv_D) : kv_D := fun L st h v h' => match L[i]? with
  | some (some (.int x)) => F L (.int x :: st) h v h'
  | _ => False
def o_aload (i : Nat) (F : kv_D) : kv_D := fun L st h v h' => match L[i]? with
  | some (some (.ref x)) => F L (.ref x :: st) h v h'
  | _ => False
theorem k_iload_n {i : Nat} {q : Fin 4} (d : decode cc pc = .ok (.iload_n q, 1)) (hi : (q : Nat) = i) (k : kv_S cc nL own Ts ret ini fr lo sc (pc + 1) F) : kv_S cc nL own Ts ret ini fr lo sc pc (o_iload i F) := kv_mk (fun L st h v h' hF => by
  unfold o_iload at hF
  split at hF
  · rename_i x hx
    exact ⟨_, F, _, _, k, hF, fun p l e R s m args below meth c b S n0 z0 dC dI dA Q X ls H locs cells slots hc hs Y kk => lv_iload_n X.1 X.2.1 d hi (Y.1.2.2.2 i _ hx rfl) (kk ls Y.1)⟩
  · exact hF.elim)
theorem k_iload {i : Nat} (d : decode cc pc = .ok (.iload i, 2)) (k : kv_S cc nL own Ts ret ini fr lo sc (pc + 2) F) : kv_S cc nL own Ts ret ini fr lo sc pc (o_iload i F) := kv_mk (fun L st h v h' hF => by
  unfold o_iload at hF
  split at hF
  · rename_i x hx
    exact ⟨_, F, _, _, k, hF, fun p l e R s m args below meth c b S n0 z0 dC dI dA Q X ls H locs cells slots hc hs Y kk => lv_iload X.1 X.2.1 d (Y.1.2.2.2 i _ hx rfl) (kk ls Y.1)⟩
  · exact hF.elim)
theorem k_aload_n {i : Nat} {q : Fin 4} (d : decode cc pc = .ok (.aload_n q, 1)) (hi : (q : Nat) = i) (k : kv_S cc nL own Ts ret ini fr lo sc (pc + 1) F) : kv_S cc nL own Ts ret ini fr lo sc pc (o_aload i F) := kv_mk (fun L st h v h' hF => by
  unfold o_aload at hF
  split at hF
  · rename_i x hx
    exact ⟨_, F, _, _, k, hF, fun p l e R s m args below meth c b S n0 z0 dC dI dA Q X ls H locs cells slots hc hs Y kk => lv_aload_n X.1 X.2.1 d hi (Y.1.2.2.2 i _ hx rfl) (kk ls Y.1)⟩
  · exact hF.elim)
theorem k_aload {i : Nat} (d : decode cc pc = .ok (.aload i, 2)) (k : kv_S cc nL own Ts ret ini fr lo sc (pc + 2) F) : kv_S cc nL own Ts ret ini fr lo sc pc (o_aload i F) := kv_mk (fun L st h v h' hF => by
  unfold o_aload at hF
  split at hF
  · rename_i x hx
    exact ⟨_, F, _, _, k, hF, fun p l e R s m args below meth c b S n0 z0 dC dI dA Q X ls H locs cells slots hc hs Y kk => lv_aload X.1 X.2.1 d (Y.1.2.2.2 i _ hx rfl) (kk ls Y.1)⟩
  · exact hF.elim)
def o_istore (i : Nat) (F : kv_D) : kv_D := fun L st h v h' => match st with
  | .int x :: r => F (L.set i (some (.int x))) r h v h'
  | _ => False
def o_astore (i : Nat) (F : kv_D) : kv_D := fun L st h v h' => match st with
  | .ref x :: r => F (L.set i (some (.ref x))) r h v h'
  | _ => False
theorem k_istore_n {i : Nat} {q : Fin 4} (d : decode cc pc = .ok (.istore_n q, 1)) (hi : (q : Nat) = i) (hn : i < nL) (k : kv_S cc nL own Ts ret ini fr lo sc (pc + 1) F) : kv_S cc nL own Ts ret ini fr lo sc pc (o_istore i F) := kv_mk (fun L st h v h' hF => by
  unfold o_istore at hF
  split at hF
  · exact ⟨_, F, _, _, k, hF, fun p l e R s m args below meth c b S n0 z0 dC dI dA Q X ls H locs cells slots hc hs Y kk => lv_istore_n X.1 X.2.1 d hi (kv_lv_has Y.1) hn rfl (fun ls' h' => kk ls' (kv_lv_set Y.1 h'))⟩
  · exact hF.elim)
theorem k_istore {i : Nat} (d : decode cc pc = .ok (.istore i, 2)) (hn : i < nL) (k : kv_S cc nL own Ts ret ini fr lo sc (pc + 2) F) : kv_S cc nL own Ts ret ini fr lo sc pc (o_istore i F) := kv_mk (fun L st h v h' hF => by
  unfold o_istore at hF
  split at hF
  · exact ⟨_, F, _, _, k, hF, fun p l e R s m args below meth c b S n0 z0 dC dI dA Q X ls H locs cells slots hc hs Y kk => lv_istore X.1 X.2.1 d (kv_lv_has Y.1) hn rfl (fun ls' h' => kk ls' (kv_lv_set Y.1 h'))⟩
  · exact hF.elim)
theorem k_astore_n {i : Nat} {q : Fin 4} (d : decode cc pc = .ok (.astore_n q, 1)) (hi : (q : Nat) = i) (hn : i < nL) (k : kv_S cc nL own Ts ret ini fr lo sc (pc + 1) F) : kv_S cc nL own Ts ret ini fr lo sc pc (o_astore i F) := kv_mk (fun L st h v h' hF => by
  unfold o_astore at hF
  split at hF
  · exact ⟨_, F, _, _, k, hF, fun p l e R s m args below meth c b S n0 z0 dC dI dA Q X ls H locs cells slots hc hs Y kk => lv_astore_n X.1 X.2.1 d hi (kv_lv_has Y.1) hn rfl (fun ls' h' => kk ls' (kv_lv_set Y.1 h'))⟩
  · exact hF.elim)
theorem k_astore {i : Nat} (d : decode cc pc = .ok (.astore i, 2)) (hn : i < nL) (k : kv_S cc nL own Ts ret ini fr lo sc (pc + 2) F) : kv_S cc nL own Ts ret ini fr lo sc pc (o_astore i F) := kv_mk (fun L st h v h' hF => by
  unfold o_astore at hF
  split at hF
  · exact ⟨_, F, _, _, k, hF, fun p l e R s m args below meth c b S n0 z0 dC dI dA Q X ls H locs cells slots hc hs Y kk => lv_astore X.1 X.2.1 d (kv_lv_has Y.1) hn rfl (fun ls' h' => kk ls' (kv_lv_set Y.1 h'))⟩
  · exact hF.elim)
def o_iinc (i : Nat) (k : Int32) (F : kv_D) : kv_D := fun L st h v h' => match L[i]? with
  | some (some (.int x)) => F (L.set i (some (.int (x + k)))) st h v h'
  | _ => False
theorem k_iinc {i : Nat} {n : Int} {q : Int32} (d : decode cc pc = .ok (.iinc i n, 3)) (hq : Int32.ofInt n = q) (hn : i < nL) (k : kv_S cc nL own Ts ret ini fr lo sc (pc + 3) F) : kv_S cc nL own Ts ret ini fr lo sc pc (o_iinc i q F) := kv_mk (fun L st h v h' hF => by
  unfold o_iinc at hF
  split at hF
  · rename_i x hx
    refine ⟨_, F, _, _, k, hF, fun p l e R s m args below meth c b S n0 z0 dC dI dA Q X ls H locs cells slots hc hs Y kk => ?_⟩
    obtain ⟨j, hj⟩ := List.getElem?_of_mem (kv_lv_mem (b := b) (S := S) hn hx rfl)
    exact lv_iinc (x := x) (v := x + q) X.1 X.2.1 d (kv_lv_has Y.1) hj (by rw [hq]) hn rfl (fun ls' h' => kk ls' (kv_lv_set (x := .int (x + q)) Y.1 h'))
  · exact hF.elim)
def o_iadd (F : kv_D) : kv_D := fun L st h v h' => match st with
  | .int y :: .int x :: r => F L (.int (x + y) :: r) h v h'
  | _ => False
theorem k_iadd (d : decode cc pc = .ok (.iadd, 1)) (k : kv_S cc nL own Ts ret ini fr lo sc (pc + 1) F) : kv_S cc nL own Ts ret ini fr lo sc pc (o_iadd F) := kv_mk (fun L st h v h' hF => by
  unfold o_iadd at hF
  split at hF
  · exact ⟨_, F, _, _, k, hF, fun p l e R s m args below meth c b S n0 z0 dC dI dA Q X ls H locs cells slots hc hs Y kk => lv_iadd X.1 X.2.1 d (kk ls Y.1)⟩
  · exact hF.elim)
def o_isub (F : kv_D) : kv_D := fun L st h v h' => match st with
  | .int y :: .int x :: r => F L (.int (x - y) :: r) h v h'
  | _ => False
theorem k_isub (d : decode cc pc = .ok (.isub, 1)) (k : kv_S cc nL own Ts ret ini fr lo sc (pc + 1) F) : kv_S cc nL own Ts ret ini fr lo sc pc (o_isub F) := kv_mk (fun L st h v h' hF => by
  unfold o_isub at hF
  split at hF
  · exact ⟨_, F, _, _, k, hF, fun p l e R s m args below meth c b S n0 z0 dC dI dA Q X ls H locs cells slots hc hs Y kk => lv_isub X.1 X.2.1 d (kk ls Y.1)⟩
  · exact hF.elim)
def o_imul (F : kv_D) : kv_D := fun L st h v h' => match st with
  | .int y :: .int x :: r => F L (.int (x * y) :: r) h v h'
  | _ => False
theorem k_imul (d : decode cc pc = .ok (.imul, 1)) (k : kv_S cc nL own Ts ret ini fr lo sc (pc + 1) F) : kv_S cc nL own Ts ret ini fr lo sc pc (o_imul F) := kv_mk (fun L st h v h' hF => by
  unfold o_imul at hF
  split at hF
  · exact ⟨_, F, _, _, k, hF, fun p l e R s m args below meth c b S n0 z0 dC dI dA Q X ls H locs cells slots hc hs Y kk => lv_imul X.1 X.2.1 d (kk ls Y.1)⟩
  · exact hF.elim)
def o_iand (F : kv_D) : kv_D := fun L st h v h' => match st with
  | .int y :: .int x :: r => F L (.int (x &&& y) :: r) h v h'
  | _ => False
theorem k_iand (d : decode cc pc = .ok (.iand, 1)) (k : kv_S cc nL own Ts ret ini fr lo sc (pc + 1) F) : kv_S cc nL own Ts ret ini fr lo sc pc (o_iand F) := kv_mk (fun L st h v h' hF => by
  unfold o_iand at hF
  split at hF
  · exact ⟨_, F, _, _, k, hF, fun p l e R s m args below meth c b S n0 z0 dC dI dA Q X ls H locs cells slots hc hs Y kk => lv_iand X.1 X.2.1 d (kk ls Y.1)⟩
  · exact hF.elim)
def o_ior (F : kv_D) : kv_D := fun L st h v h' => match st with
  | .int y :: .int x :: r => F L (.int (x ||| y) :: r) h v h'
  | _ => False
theorem k_ior (d : decode cc pc = .ok (.ior, 1)) (k : kv_S cc nL own Ts ret ini fr lo sc (pc + 1) F) : kv_S cc nL own Ts ret ini fr lo sc pc (o_ior F) := kv_mk (fun L st h v h' hF => by
  unfold o_ior at hF
  split at hF
  · exact ⟨_, F, _, _, k, hF, fun p l e R s m args below meth c b S n0 z0 dC dI dA Q X ls H locs cells slots hc hs Y kk => lv_ior X.1 X.2.1 d (kk ls Y.1)⟩
  · exact hF.elim)
def o_ixor (F : kv_D) : kv_D := fun L st h v h' => match st with
  | .int y :: .int x :: r => F L (.int (x ^^^ y) :: r) h v h'
  | _ => False
theorem k_ixor (d : decode cc pc = .ok (.ixor, 1)) (k : kv_S cc nL own Ts ret ini fr lo sc (pc + 1) F) : kv_S cc nL own Ts ret ini fr lo sc pc (o_ixor F) := kv_mk (fun L st h v h' hF => by
  unfold o_ixor at hF
  split at hF
  · exact ⟨_, F, _, _, k, hF, fun p l e R s m args below meth c b S n0 z0 dC dI dA Q X ls H locs cells slots hc hs Y kk => lv_ixor X.1 X.2.1 d (kk ls Y.1)⟩
  · exact hF.elim)
def o_ishl (F : kv_D) : kv_D := fun L st h v h' => match st with
  | .int y :: .int x :: r => F L (.int (x <<< (y &&& 31)) :: r) h v h'
  | _ => False
theorem k_ishl (d : decode cc pc = .ok (.ishl, 1)) (k : kv_S cc nL own Ts ret ini fr lo sc (pc + 1) F) : kv_S cc nL own Ts ret ini fr lo sc pc (o_ishl F) := kv_mk (fun L st h v h' hF => by
  unfold o_ishl at hF
  split at hF
  · exact ⟨_, F, _, _, k, hF, fun p l e R s m args below meth c b S n0 z0 dC dI dA Q X ls H locs cells slots hc hs Y kk => lv_ishl X.1 X.2.1 d (kk ls Y.1)⟩
  · exact hF.elim)
def o_ishr (F : kv_D) : kv_D := fun L st h v h' => match st with
  | .int y :: .int x :: r => F L (.int (x >>> (y &&& 31)) :: r) h v h'
  | _ => False
theorem k_ishr (d : decode cc pc = .ok (.ishr, 1)) (k : kv_S cc nL own Ts ret ini fr lo sc (pc + 1) F) : kv_S cc nL own Ts ret ini fr lo sc pc (o_ishr F) := kv_mk (fun L st h v h' hF => by
  unfold o_ishr at hF
  split at hF
  · exact ⟨_, F, _, _, k, hF, fun p l e R s m args below meth c b S n0 z0 dC dI dA Q X ls H locs cells slots hc hs Y kk => lv_ishr X.1 X.2.1 d (kk ls Y.1)⟩
  · exact hF.elim)
def o_idiv (F : kv_D) : kv_D := fun L st h v h' => match st with
  | .int y :: .int x :: r => ¬ y = 0 ∧ F L (.int (x / y) :: r) h v h'
  | _ => False
theorem k_idiv (d : decode cc pc = .ok (.idiv, 1)) (k : kv_S cc nL own Ts ret ini fr lo sc (pc + 1) F) : kv_S cc nL own Ts ret ini fr lo sc pc (o_idiv F) := kv_mk (fun L st h v h' hF => by
  unfold o_idiv at hF
  split at hF
  · exact ⟨_, F, _, _, k, hF.2, fun p l e R s m args below meth c b S n0 z0 dC dI dA Q X ls H locs cells slots hc hs Y kk => lv_idiv X.1 X.2.1 d hF.1 (kk ls Y.1)⟩
  · exact hF.elim)
def o_irem (F : kv_D) : kv_D := fun L st h v h' => match st with
  | .int y :: .int x :: r => ¬ y = 0 ∧ F L (.int (x - x / y * y) :: r) h v h'
  | _ => False
theorem k_irem (d : decode cc pc = .ok (.irem, 1)) (k : kv_S cc nL own Ts ret ini fr lo sc (pc + 1) F) : kv_S cc nL own Ts ret ini fr lo sc pc (o_irem F) := kv_mk (fun L st h v h' hF => by
  unfold o_irem at hF
  split at hF
  · exact ⟨_, F, _, _, k, hF.2, fun p l e R s m args below meth c b S n0 z0 dC dI dA Q X ls H locs cells slots hc hs Y kk => lv_irem X.1 X.2.1 d hF.1 (kk ls Y.1)⟩
  · exact hF.elim)
def o_iushr (F : kv_D) : kv_D := fun L st h v h' => match st with
  | .int y :: .int x :: r => F L (.int ((x.toUInt32 >>> (y.toUInt32 &&& Int32.toUInt32 31)).toInt32) :: r) h v h'
  | _ => False
theorem k_iushr (d : decode cc pc = .ok (.iushr, 1)) (k : kv_S cc nL own Ts ret ini fr lo sc (pc + 1) F) : kv_S cc nL own Ts ret ini fr lo sc pc (o_iushr F) := kv_mk (fun L st h v h' hF => by
  unfold o_iushr at hF
  split at hF
  · exact ⟨_, F, _, _, k, hF, fun p l e R s m args below meth c b S n0 z0 dC dI dA Q X ls H locs cells slots hc hs Y kk => lv_iushr X.1 X.2.1 d rfl (kk ls Y.1)⟩
  · exact hF.elim)
def o_ineg (F : kv_D) : kv_D := fun L st h v h' => match st with
  | .int x :: r => F L (.int (-x) :: r) h v h'
  | _ => False
theorem k_ineg (d : decode cc pc = .ok (.ineg, 1)) (k : kv_S cc nL own Ts ret ini fr lo sc (pc + 1) F) : kv_S cc nL own Ts ret ini fr lo sc pc (o_ineg F) := kv_mk (fun L st h v h' hF => by
  unfold o_ineg at hF
  split at hF
  · exact ⟨_, F, _, _, k, hF, fun p l e R s m args below meth c b S n0 z0 dC dI dA Q X ls H locs cells slots hc hs Y kk => lv_ineg X.1 X.2.1 d (kk ls Y.1)⟩
  · exact hF.elim)
def o_i2c (F : kv_D) : kv_D := fun L st h v h' => match st with
  | .int x :: r => F L (.int ((x.toUInt32 % 65536).toInt32) :: r) h v h'
  | _ => False
theorem k_i2c (d : decode cc pc = .ok (.i2c, 1)) (k : kv_S cc nL own Ts ret ini fr lo sc (pc + 1) F) : kv_S cc nL own Ts ret ini fr lo sc pc (o_i2c F) := kv_mk (fun L st h v h' hF => by
  unfold o_i2c at hF
  split at hF
  · exact ⟨_, F, _, _, k, hF, fun p l e R s m args below meth c b S n0 z0 dC dI dA Q X ls H locs cells slots hc hs Y kk => lv_i2c X.1 X.2.1 d rfl (kk ls Y.1)⟩
  · exact hF.elim)
def o_dup (F : kv_D) : kv_D := fun L st h v h' => match st with
  | x :: r => x.category = 1 ∧ F L (x :: x :: r) h v h'
  | _ => False
def o_pop (F : kv_D) : kv_D := fun L st h v h' => match st with
  | x :: r => x.category = 1 ∧ F L r h v h'
  | _ => False
def o_dup_x1 (F : kv_D) : kv_D := fun L st h v h' => match st with
  | x :: y :: r => (x.category = 1 ∧ y.category = 1) ∧ F L (x :: y :: x :: r) h v h'
  | _ => False
def o_dup_x2 (F : kv_D) : kv_D := fun L st h v h' => match st with
  | x :: y :: z :: r => (x.category = 1 ∧ y.category = 1 ∧ z.category = 1) ∧ F L (x :: y :: z :: x :: r) h v h'
  | _ => False
def o_dup2 (F : kv_D) : kv_D := fun L st h v h' => match st with
  | x :: y :: r => (x.category = 1 ∧ y.category = 1) ∧ F L (x :: y :: x :: y :: r) h v h'
  | _ => False
theorem k_dup (d : decode cc pc = .ok (.dup, 1)) (k : kv_S cc nL own Ts ret ini fr lo sc (pc + 1) F) : kv_S cc nL own Ts ret ini fr lo sc pc (o_dup F) := kv_mk (fun L st h v h' hF => by
  unfold o_dup at hF
  split at hF
  · exact ⟨_, F, _, _, k, hF.2, fun p l e R s m args below meth c b S n0 z0 dC dI dA Q X ls H locs cells slots hc hs Y kk => lv_dup X.1 X.2.1 d (by rw [kv_cat]; exact hF.1) (kk ls Y.1)⟩
  · exact hF.elim)
theorem k_pop (d : decode cc pc = .ok (.pop, 1)) (k : kv_S cc nL own Ts ret ini fr lo sc (pc + 1) F) : kv_S cc nL own Ts ret ini fr lo sc pc (o_pop F) := kv_mk (fun L st h v h' hF => by
  unfold o_pop at hF
  split at hF
  · exact ⟨_, F, _, _, k, hF.2, fun p l e R s m args below meth c b S n0 z0 dC dI dA Q X ls H locs cells slots hc hs Y kk => lv_pop X.1 X.2.1 d (by rw [kv_cat]; exact hF.1) (kk ls Y.1)⟩
  · exact hF.elim)
theorem k_dup_x1 (d : decode cc pc = .ok (.dup_x1, 1)) (k : kv_S cc nL own Ts ret ini fr lo sc (pc + 1) F) : kv_S cc nL own Ts ret ini fr lo sc pc (o_dup_x1 F) := kv_mk (fun L st h v h' hF => by
  unfold o_dup_x1 at hF
  split at hF
  · exact ⟨_, F, _, _, k, hF.2, fun p l e R s m args below meth c b S n0 z0 dC dI dA Q X ls H locs cells slots hc hs Y kk => lv_dup_x1 X.1 X.2.1 d (by rw [kv_cat]; exact hF.1.1) (by rw [kv_cat]; exact hF.1.2) (kk ls Y.1)⟩
  · exact hF.elim)
theorem k_dup_x2 (d : decode cc pc = .ok (.dup_x2, 1)) (k : kv_S cc nL own Ts ret ini fr lo sc (pc + 1) F) : kv_S cc nL own Ts ret ini fr lo sc pc (o_dup_x2 F) := kv_mk (fun L st h v h' hF => by
  unfold o_dup_x2 at hF
  split at hF
  · exact ⟨_, F, _, _, k, hF.2, fun p l e R s m args below meth c b S n0 z0 dC dI dA Q X ls H locs cells slots hc hs Y kk => lv_dup_x2 X.1 X.2.1 d (by rw [kv_cat]; exact hF.1.1) (by rw [kv_cat]; exact hF.1.2.1) (by rw [kv_cat]; exact hF.1.2.2) (kk ls Y.1)⟩
  · exact hF.elim)
theorem k_dup2 (d : decode cc pc = .ok (.dup2, 1)) (k : kv_S cc nL own Ts ret ini fr lo sc (pc + 1) F) : kv_S cc nL own Ts ret ini fr lo sc pc (o_dup2 F) := kv_mk (fun L st h v h' hF => by
  unfold o_dup2 at hF
  split at hF
  · exact ⟨_, F, _, _, k, hF.2, fun p l e R s m args below meth c b S n0 z0 dC dI dA Q X ls H locs cells slots hc hs Y kk => lv_dup2_11 X.1 X.2.1 d (by rw [kv_cat]; exact hF.1.1) (by rw [kv_cat]; exact hF.1.2) (kk ls Y.1)⟩
  · exact hF.elim)
def o_ifeq (F G : kv_D) : kv_D := fun L st h v h' => match st with
  | .int x :: r => if x = 0 then F L r h v h' else G L r h v h'
  | _ => False
theorem k_ifeq {off : Int} {t : Nat} (d : decode cc pc = .ok (.ifCond .eq off, 3)) (ht : (pc : Int) + off = (t : Int)) (kt : kv_S cc nL own Ts ret ini fr lo sc t F) (k : kv_S cc nL own Ts ret ini fr lo sc (pc + 3) G) : kv_S cc nL own Ts ret ini fr lo sc pc (o_ifeq F G) := kv_mk (fun L st h v h' hF => by
  unfold o_ifeq at hF
  split at hF
  · split at hF
    · rename_i hx
      exact ⟨_, F, _, _, kt, hF, fun p l e R s m args below meth c b S n0 z0 dC dI dA Q X ls H locs cells slots hc hs Y kk => lv_if_eq X.1 X.2.1 d ht (fun _ => kk ls Y.1) (fun q => absurd hx q)⟩
    · rename_i hx
      exact ⟨_, G, _, _, k, hF, fun p l e R s m args below meth c b S n0 z0 dC dI dA Q X ls H locs cells slots hc hs Y kk => lv_if_eq X.1 X.2.1 d ht (fun q => absurd q hx) (fun _ => kk ls Y.1)⟩
  · exact hF.elim)
def o_ifne (F G : kv_D) : kv_D := fun L st h v h' => match st with
  | .int x :: r => if ¬ x = 0 then F L r h v h' else G L r h v h'
  | _ => False
theorem k_ifne {off : Int} {t : Nat} (d : decode cc pc = .ok (.ifCond .ne off, 3)) (ht : (pc : Int) + off = (t : Int)) (kt : kv_S cc nL own Ts ret ini fr lo sc t F) (k : kv_S cc nL own Ts ret ini fr lo sc (pc + 3) G) : kv_S cc nL own Ts ret ini fr lo sc pc (o_ifne F G) := kv_mk (fun L st h v h' hF => by
  unfold o_ifne at hF
  split at hF
  · split at hF
    · rename_i hx
      exact ⟨_, F, _, _, kt, hF, fun p l e R s m args below meth c b S n0 z0 dC dI dA Q X ls H locs cells slots hc hs Y kk => lv_if_ne X.1 X.2.1 d ht (fun _ => kk ls Y.1) (fun q => absurd q hx)⟩
    · rename_i hx
      exact ⟨_, G, _, _, k, hF, fun p l e R s m args below meth c b S n0 z0 dC dI dA Q X ls H locs cells slots hc hs Y kk => lv_if_ne X.1 X.2.1 d ht (fun q => absurd q hx) (fun _ => kk ls Y.1)⟩
  · exact hF.elim)
def o_iflt (F G : kv_D) : kv_D := fun L st h v h' => match st with
  | .int x :: r => if x < 0 then F L r h v h' else G L r h v h'
  | _ => False
theorem k_iflt {off : Int} {t : Nat} (d : decode cc pc = .ok (.ifCond .lt off, 3)) (ht : (pc : Int) + off = (t : Int)) (kt : kv_S cc nL own Ts ret ini fr lo sc t F) (k : kv_S cc nL own Ts ret ini fr lo sc (pc + 3) G) : kv_S cc nL own Ts ret ini fr lo sc pc (o_iflt F G) := kv_mk (fun L st h v h' hF => by
  unfold o_iflt at hF
  split at hF
  · split at hF
    · rename_i hx
      exact ⟨_, F, _, _, kt, hF, fun p l e R s m args below meth c b S n0 z0 dC dI dA Q X ls H locs cells slots hc hs Y kk => lv_if_lt X.1 X.2.1 d ht (fun _ => kk ls Y.1) (fun q => absurd hx q)⟩
    · rename_i hx
      exact ⟨_, G, _, _, k, hF, fun p l e R s m args below meth c b S n0 z0 dC dI dA Q X ls H locs cells slots hc hs Y kk => lv_if_lt X.1 X.2.1 d ht (fun q => absurd q hx) (fun _ => kk ls Y.1)⟩
  · exact hF.elim)
def o_ifge (F G : kv_D) : kv_D := fun L st h v h' => match st with
  | .int x :: r => if 0 ≤ x then F L r h v h' else G L r h v h'
  | _ => False
theorem k_ifge {off : Int} {t : Nat} (d : decode cc pc = .ok (.ifCond .ge off, 3)) (ht : (pc : Int) + off = (t : Int)) (kt : kv_S cc nL own Ts ret ini fr lo sc t F) (k : kv_S cc nL own Ts ret ini fr lo sc (pc + 3) G) : kv_S cc nL own Ts ret ini fr lo sc pc (o_ifge F G) := kv_mk (fun L st h v h' hF => by
  unfold o_ifge at hF
  split at hF
  · split at hF
    · rename_i hx
      exact ⟨_, F, _, _, kt, hF, fun p l e R s m args below meth c b S n0 z0 dC dI dA Q X ls H locs cells slots hc hs Y kk => lv_if_ge X.1 X.2.1 d ht (fun _ => kk ls Y.1) (fun q => absurd hx q)⟩
    · rename_i hx
      exact ⟨_, G, _, _, k, hF, fun p l e R s m args below meth c b S n0 z0 dC dI dA Q X ls H locs cells slots hc hs Y kk => lv_if_ge X.1 X.2.1 d ht (fun q => absurd q hx) (fun _ => kk ls Y.1)⟩
  · exact hF.elim)
def o_ifgt (F G : kv_D) : kv_D := fun L st h v h' => match st with
  | .int x :: r => if 0 < x then F L r h v h' else G L r h v h'
  | _ => False
theorem k_ifgt {off : Int} {t : Nat} (d : decode cc pc = .ok (.ifCond .gt off, 3)) (ht : (pc : Int) + off = (t : Int)) (kt : kv_S cc nL own Ts ret ini fr lo sc t F) (k : kv_S cc nL own Ts ret ini fr lo sc (pc + 3) G) : kv_S cc nL own Ts ret ini fr lo sc pc (o_ifgt F G) := kv_mk (fun L st h v h' hF => by
  unfold o_ifgt at hF
  split at hF
  · split at hF
    · rename_i hx
      exact ⟨_, F, _, _, kt, hF, fun p l e R s m args below meth c b S n0 z0 dC dI dA Q X ls H locs cells slots hc hs Y kk => lv_if_gt X.1 X.2.1 d ht (fun _ => kk ls Y.1) (fun q => absurd hx q)⟩
    · rename_i hx
      exact ⟨_, G, _, _, k, hF, fun p l e R s m args below meth c b S n0 z0 dC dI dA Q X ls H locs cells slots hc hs Y kk => lv_if_gt X.1 X.2.1 d ht (fun q => absurd q hx) (fun _ => kk ls Y.1)⟩
  · exact hF.elim)
def o_ifle (F G : kv_D) : kv_D := fun L st h v h' => match st with
  | .int x :: r => if x ≤ 0 then F L r h v h' else G L r h v h'
  | _ => False
theorem k_ifle {off : Int} {t : Nat} (d : decode cc pc = .ok (.ifCond .le off, 3)) (ht : (pc : Int) + off = (t : Int)) (kt : kv_S cc nL own Ts ret ini fr lo sc t F) (k : kv_S cc nL own Ts ret ini fr lo sc (pc + 3) G) : kv_S cc nL own Ts ret ini fr lo sc pc (o_ifle F G) := kv_mk (fun L st h v h' hF => by
  unfold o_ifle at hF
  split at hF
  · split at hF
    · rename_i hx
      exact ⟨_, F, _, _, kt, hF, fun p l e R s m args below meth c b S n0 z0 dC dI dA Q X ls H locs cells slots hc hs Y kk => lv_if_le X.1 X.2.1 d ht (fun _ => kk ls Y.1) (fun q => absurd hx q)⟩
    · rename_i hx
      exact ⟨_, G, _, _, k, hF, fun p l e R s m args below meth c b S n0 z0 dC dI dA Q X ls H locs cells slots hc hs Y kk => lv_if_le X.1 X.2.1 d ht (fun q => absurd q hx) (fun _ => kk ls Y.1)⟩
  · exact hF.elim)
def o_iceq (F G : kv_D) : kv_D := fun L st h v h' => match st with
  | .int y :: .int x :: r => if x = y then F L r h v h' else G L r h v h'
  | _ => False
theorem k_iceq {off : Int} {t : Nat} (d : decode cc pc = .ok (.if_icmp .eq off, 3)) (ht : (pc : Int) + off = (t : Int)) (kt : kv_S cc nL own Ts ret ini fr lo sc t F) (k : kv_S cc nL own Ts ret ini fr lo sc (pc + 3) G) : kv_S cc nL own Ts ret ini fr lo sc pc (o_iceq F G) := kv_mk (fun L st h v h' hF => by
  unfold o_iceq at hF
  split at hF
  · split at hF
    · rename_i hx
      exact ⟨_, F, _, _, kt, hF, fun p l e R s m args below meth c b S n0 z0 dC dI dA Q X ls H locs cells slots hc hs Y kk => lv_icmp_eq X.1 X.2.1 d ht (fun _ => kk ls Y.1) (fun q => absurd hx q)⟩
    · rename_i hx
      exact ⟨_, G, _, _, k, hF, fun p l e R s m args below meth c b S n0 z0 dC dI dA Q X ls H locs cells slots hc hs Y kk => lv_icmp_eq X.1 X.2.1 d ht (fun q => absurd q hx) (fun _ => kk ls Y.1)⟩
  · exact hF.elim)
def o_icne (F G : kv_D) : kv_D := fun L st h v h' => match st with
  | .int y :: .int x :: r => if ¬ x = y then F L r h v h' else G L r h v h'
  | _ => False
theorem k_icne {off : Int} {t : Nat} (d : decode cc pc = .ok (.if_icmp .ne off, 3)) (ht : (pc : Int) + off = (t : Int)) (kt : kv_S cc nL own Ts ret ini fr lo sc t F) (k : kv_S cc nL own Ts ret ini fr lo sc (pc + 3) G) : kv_S cc nL own Ts ret ini fr lo sc pc (o_icne F G) := kv_mk (fun L st h v h' hF => by
  unfold o_icne at hF
  split at hF
  · split at hF
    · rename_i hx
      exact ⟨_, F, _, _, kt, hF, fun p l e R s m args below meth c b S n0 z0 dC dI dA Q X ls H locs cells slots hc hs Y kk => lv_icmp_ne X.1 X.2.1 d ht (fun _ => kk ls Y.1) (fun q => absurd q hx)⟩
    · rename_i hx
      exact ⟨_, G, _, _, k, hF, fun p l e R s m args below meth c b S n0 z0 dC dI dA Q X ls H locs cells slots hc hs Y kk => lv_icmp_ne X.1 X.2.1 d ht (fun q => absurd q hx) (fun _ => kk ls Y.1)⟩
  · exact hF.elim)
def o_iclt (F G : kv_D) : kv_D := fun L st h v h' => match st with
  | .int y :: .int x :: r => if x < y then F L r h v h' else G L r h v h'
  | _ => False
theorem k_iclt {off : Int} {t : Nat} (d : decode cc pc = .ok (.if_icmp .lt off, 3)) (ht : (pc : Int) + off = (t : Int)) (kt : kv_S cc nL own Ts ret ini fr lo sc t F) (k : kv_S cc nL own Ts ret ini fr lo sc (pc + 3) G) : kv_S cc nL own Ts ret ini fr lo sc pc (o_iclt F G) := kv_mk (fun L st h v h' hF => by
  unfold o_iclt at hF
  split at hF
  · split at hF
    · rename_i hx
      exact ⟨_, F, _, _, kt, hF, fun p l e R s m args below meth c b S n0 z0 dC dI dA Q X ls H locs cells slots hc hs Y kk => lv_icmp_lt X.1 X.2.1 d ht (fun _ => kk ls Y.1) (fun q => absurd hx q)⟩
    · rename_i hx
      exact ⟨_, G, _, _, k, hF, fun p l e R s m args below meth c b S n0 z0 dC dI dA Q X ls H locs cells slots hc hs Y kk => lv_icmp_lt X.1 X.2.1 d ht (fun q => absurd q hx) (fun _ => kk ls Y.1)⟩
  · exact hF.elim)
def o_icge (F G : kv_D) : kv_D := fun L st h v h' => match st with
  | .int y :: .int x :: r => if y ≤ x then F L r h v h' else G L r h v h'
  | _ => False
theorem k_icge {off : Int} {t : Nat} (d : decode cc pc = .ok (.if_icmp .ge off, 3)) (ht : (pc : Int) + off = (t : Int)) (kt : kv_S cc nL own Ts ret ini fr lo sc t F) (k : kv_S cc nL own Ts ret ini fr lo sc (pc + 3) G) : kv_S cc nL own Ts ret ini fr lo sc pc (o_icge F G) := kv_mk (fun L st h v h' hF => by
  unfold o_icge at hF
  split at hF
  · split at hF
    · rename_i hx
      exact ⟨_, F, _, _, kt, hF, fun p l e R s m args below meth c b S n0 z0 dC dI dA Q X ls H locs cells slots hc hs Y kk => lv_icmp_ge X.1 X.2.1 d ht (fun _ => kk ls Y.1) (fun q => absurd hx q)⟩
    · rename_i hx
      exact ⟨_, G, _, _, k, hF, fun p l e R s m args below meth c b S n0 z0 dC dI dA Q X ls H locs cells slots hc hs Y kk => lv_icmp_ge X.1 X.2.1 d ht (fun q => absurd q hx) (fun _ => kk ls Y.1)⟩
  · exact hF.elim)
def o_icgt (F G : kv_D) : kv_D := fun L st h v h' => match st with
  | .int y :: .int x :: r => if y < x then F L r h v h' else G L r h v h'
  | _ => False
theorem k_icgt {off : Int} {t : Nat} (d : decode cc pc = .ok (.if_icmp .gt off, 3)) (ht : (pc : Int) + off = (t : Int)) (kt : kv_S cc nL own Ts ret ini fr lo sc t F) (k : kv_S cc nL own Ts ret ini fr lo sc (pc + 3) G) : kv_S cc nL own Ts ret ini fr lo sc pc (o_icgt F G) := kv_mk (fun L st h v h' hF => by
  unfold o_icgt at hF
  split at hF
  · split at hF
    · rename_i hx
      exact ⟨_, F, _, _, kt, hF, fun p l e R s m args below meth c b S n0 z0 dC dI dA Q X ls H locs cells slots hc hs Y kk => lv_icmp_gt X.1 X.2.1 d ht (fun _ => kk ls Y.1) (fun q => absurd hx q)⟩
    · rename_i hx
      exact ⟨_, G, _, _, k, hF, fun p l e R s m args below meth c b S n0 z0 dC dI dA Q X ls H locs cells slots hc hs Y kk => lv_icmp_gt X.1 X.2.1 d ht (fun q => absurd q hx) (fun _ => kk ls Y.1)⟩
  · exact hF.elim)
def o_icle (F G : kv_D) : kv_D := fun L st h v h' => match st with
  | .int y :: .int x :: r => if x ≤ y then F L r h v h' else G L r h v h'
  | _ => False
theorem k_icle {off : Int} {t : Nat} (d : decode cc pc = .ok (.if_icmp .le off, 3)) (ht : (pc : Int) + off = (t : Int)) (kt : kv_S cc nL own Ts ret ini fr lo sc t F) (k : kv_S cc nL own Ts ret ini fr lo sc (pc + 3) G) : kv_S cc nL own Ts ret ini fr lo sc pc (o_icle F G) := kv_mk (fun L st h v h' hF => by
  unfold o_icle at hF
  split at hF
  · split at hF
    · rename_i hx
      exact ⟨_, F, _, _, kt, hF, fun p l e R s m args below meth c b S n0 z0 dC dI dA Q X ls H locs cells slots hc hs Y kk => lv_icmp_le X.1 X.2.1 d ht (fun _ => kk ls Y.1) (fun q => absurd hx q)⟩
    · rename_i hx
      exact ⟨_, G, _, _, k, hF, fun p l e R s m args below meth c b S n0 z0 dC dI dA Q X ls H locs cells slots hc hs Y kk => lv_icmp_le X.1 X.2.1 d ht (fun q => absurd q hx) (fun _ => kk ls Y.1)⟩
  · exact hF.elim)
theorem k_goto {off : Int} {t : Nat} (d : decode cc pc = .ok (.goto off, 3)) (ht : (pc : Int) + off = (t : Int)) (kt : kv_S cc nL own Ts ret ini fr lo sc t F) : kv_S cc nL own Ts ret ini fr lo sc pc F := kv_mk (fun L st h v h' hF => ⟨_, F, _, _, kt, hF, fun p l e R s m args below meth c b S n0 z0 dC dI dA Q X ls H locs cells slots hc hs Y kk => lv_goto X.1 X.2.1 d ht (kk ls Y.1)⟩)
def o_ret : kv_D := fun L st h v h' => st = [] ∧ v = none ∧ h' = h
theorem k_ret (d : decode cc pc = .ok (.return_, 1)) (hr : ret = none) : kv_S cc nL own Ts ret ini fr lo sc pc o_ret := by
  intro L st h v h' hF
  obtain ⟨rfl, rfl, rfl⟩ := hF
  refine ⟨⟨Nat.le_refl _, Nat.le_refl _⟩, ?_⟩
  intro p l e R s m args below meth c b S n0 z0 dC dI dA Q X hc hz kr ls H locs cells slots Y
  exact kr pc ls L H locs cells slots (Or.inl ⟨rfl, hr, d⟩) Y
def o_iret (ty : FieldType) : kv_D := fun L st h v h' => match st with
  | [.int x] => narrow ty (.int x) = .int x ∧ v = some (.int x) ∧ h' = h
  | _ => False
theorem k_iret {ty : FieldType} (d : decode cc pc = .ok (.ireturn, 1)) (hr : ret = some ty) : kv_S cc nL own Ts ret ini fr lo sc pc (o_iret ty) := by
  intro L st h v h' hF
  unfold o_iret at hF
  split at hF
  · rename_i x
    obtain ⟨hn, rfl, rfl⟩ := hF
    refine ⟨⟨Nat.le_refl _, Nat.le_refl _⟩, ?_⟩
    intro p l e R s m args below meth c b S n0 z0 dC dI dA Q X hc hz kr ls H locs cells slots Y
    exact kr pc ls L H locs cells slots (Or.inr (Or.inl ⟨x, ty, rfl, hr, hn, d⟩)) Y
  · exact hF.elim
def o_aret : kv_D := fun L st h v h' => match st with
  | [.ref x] => v = some (.ref x) ∧ h' = h
  | _ => False
theorem k_aret {ty : FieldType} (d : decode cc pc = .ok (.areturn, 1)) (hr : ret = some ty) (ho : (∃ n, ty = .object n) ∨ ∃ t, ty = .array t) : kv_S cc nL own Ts ret ini fr lo sc pc o_aret := by
  intro L st h v h' hF
  unfold o_aret at hF
  split at hF
  · rename_i x
    obtain ⟨rfl, rfl⟩ := hF
    refine ⟨⟨Nat.le_refl _, Nat.le_refl _⟩, ?_⟩
    intro p l e R s m args below meth c b S n0 z0 dC dI dA Q X hc hz kr ls H locs cells slots Y
    exact kr pc ls L H locs cells slots (Or.inr (Or.inr ⟨x, ty, rfl, hr, ho, d⟩)) Y
  · exact hF.elim
def o_max (F : kv_D) : kv_D := fun L st h v h' => match st with
  | .int y :: .int x :: r => ((r.map fun v => v.category).sum + 13 ≤ 21) ∧ F L (.int (if x < y then y else x) :: r) h v h'
  | _ => False
theorem k_max {index : Nat} (d : decode cc pc = .ok (.invokestatic index, 3)) (h1 : Cond.methodLink own index Lib.Math.max.name ∈ Ts) (h2 : Cond.static Lib.Math.max.name ∈ Ts) (h3 : Cond.initialized "java/lang/Math" ∈ Ts) (h4 : Cond.code Lib.Math.max.name Lib.Math.max.code 2 (some .int) ∈ Ts) (hfr : 1 ≤ fr) (hlo : 21 ≤ lo) (k : kv_S cc nL own Ts ret ini fr lo sc (pc + 3) F) : kv_S cc nL own Ts ret ini fr lo sc pc (o_max F) := kv_mk (fun L st h v h' hF => by
  unfold o_max at hF
  split at hF
  · refine ⟨_, F, _, _, k, hF.2, fun p l e R s m args below meth c b S n0 z0 dC dI dA Q X ls H locs cells slots hc hs Y kk => ?_⟩
    have hx := X.2.2.2.2.1
    exact va_mmax X.1 X.2.1 (X.2.2.1.trans Y.1.1.symm) X.2.2.2.1 (hx _ h1) (hx _ h2) (hx _ h3) (hx _ h4) (Nat.le_trans hfr X.2.2.2.2.2.2.2.1) (by have := X.2.2.2.2.2.2.2.2.1; rw [kv_cats]; omega) hc hs d (kk ls Y.1)
  · exact hF.elim)
def o_sld (N : Nat) (xs : Nat → Int32) (F : kv_D) : kv_D := fun L st h v h' => match st with
  | .int i :: .ref 0 :: r => (0 ≤ i ∧ i.toNatClampNeg < N) ∧ F L (.int (xs i.toNatClampNeg) :: r) h v h'
  | _ => False
theorem kv_in_of {i : Int32} {n : Nat} (h : 0 ≤ i ∧ i.toNatClampNeg < n) : vp_in i n := fun q => by
  rcases q with q | q
  · exact absurd h.1 (Int32.not_le.mpr q)
  · omega
theorem k_sld {N : Nat} {xs : Nat → Int32} (d : decode cc pc = .ok (.iaload, 1)) (hsc : sc = some (N, xs)) (k : kv_S cc nL own Ts ret ini fr lo sc (pc + 1) F) : kv_S cc nL own Ts ret ini fr lo sc pc (o_sld N xs F) := kv_mk (fun L st h v h' hF => by
  unfold o_sld at hF
  split at hF
  · refine ⟨_, F, _, _, k, hF.2, fun p l e R s m args below meth c b S n0 z0 dC dI dA Q X ls H locs cells slots hc hs Y kk => ?_⟩
    obtain ⟨x1, x2, x3⟩ := X.2.2.2.2.2.2.2.2.2.2.2 N xs hsc
    exact va_sld (A := fun q => S ≤ q) X.1 X.2.1 x1 x2 (Nat.not_le.mpr x3) Y.2.2.2.1 (kv_in_of hF.1) d (kk ls Y.1)
  · exact hF.elim)
def o_slen (N : Nat) (F : kv_D) : kv_D := fun L st h v h' => match st with
  | .ref 0 :: r => F L (.int (Int32.ofNat N) :: r) h v h'
  | _ => False
theorem k_slen {N : Nat} {xs : Nat → Int32} (d : decode cc pc = .ok (.arraylength, 1)) (hsc : sc = some (N, xs)) (k : kv_S cc nL own Ts ret ini fr lo sc (pc + 1) F) : kv_S cc nL own Ts ret ini fr lo sc pc (o_slen N F) := kv_mk (fun L st h v h' hF => by
  unfold o_slen at hF
  split at hF
  · refine ⟨_, F, _, _, k, hF, fun p l e R s m args below meth c b S n0 z0 dC dI dA Q X ls H locs cells slots hc hs Y kk => ?_⟩
    obtain ⟨x1, x2, x3⟩ := X.2.2.2.2.2.2.2.2.2.2.2 N xs hsc
    exact va_slen (A := fun q => S ≤ q) X.1 X.2.1 x1 x2 (Nat.not_le.mpr x3) Y.2.2.2.1 d (kk ls Y.1)
  · exact hF.elim)
end KVB
end
section
section KVC
theorem kv_RA_inj {U : State} {c1 c2 : ClassId} {ty : FieldType} (h1 : va_RA U c1 ty) (h2 : va_RA U c2 ty) : c1 = c2 := by
  cases ty with
  | object C =>
    obtain ⟨_, _, -, -, -, g1⟩ := h1
    obtain ⟨_, _, -, -, -, g2⟩ := h2
    exact Option.some.inj (g1.symm.trans g2)
  | _ => exact Option.some.inj (Eq.trans (Eq.symm h1) h2)
theorem kv_rf (b S : Nat) (r : Option Nat) : kv_v b S (va_rf r) = va_rf (r.map (kv_a b S)) := by cases r <;> rfl
theorem kv_Y_put {nL b S n0 z0 : Nat} {dC : Nat → ClassId} {dI : Nat → Nat → Nat} {dA : Nat → ClassId} {s : State} {L L' : List (Option Value)} {h h1 : kv_H} {ls ls' : Array Slot} {H H1 : Heap} {locs locs1 : List Loc} {cells slots : Nat} (hsz : s.heap.size = S + n0) (Y : kv_Y nL b S n0 z0 dC dI dA s L h ls H locs cells slots) (he : h1.2 = h.2) (hl : kv_L b S ls' nL L') (hP1 : va_P (dC, dI) vwCl (kv_w b S dA h1) H1) (hS1 : va_S (fun q => S ≤ q) H H1 locs1) (hb : H1.size ≤ s.heap.size + cells) : kv_Y nL b S n0 z0 dC dI dA s L' h1 ls' H1 locs1 cells slots := by
  obtain ⟨y1, y2, y3, y4, y5, y6⟩ := Y
  have g1 := hS1.1
  refine ⟨hl, hP1, by rw [he]; omega, ⟨Nat.le_trans y4.1 hS1.1, fun q q1 q2 => ?_, hS1.2.2⟩, by rw [he]; exact y5, by rw [he]; exact y6⟩
  rw [hS1.2.1 q (Nat.lt_of_lt_of_le q1 y4.1) q2]
  exact y4.2.1 q q1 q2
theorem kv_self {S : Nat} {H0 H : Heap} {locs : List Loc} (h : va_S (fun q => S ≤ q) H0 H locs) : va_S (fun q => S ≤ q) H H locs := ⟨Nat.le_refl _, fun _ _ _ => rfl, h.2.2⟩
theorem kv_new_q {b S : Nat} {dC : Nat → ClassId} {dI : Nat → Nat → Nat} {dA : Nat → ClassId} {h : kv_H} {q n : Nat} {e : va_E} {H1 : Heap} (hP : va_P (dC, dI) vwCl (kv_w b S dA h ++ [(q, e)]) H1) (hD : va_D (fun q => S ≤ q) (kv_w b S dA h ++ [(q, e)])) (hn : H1.size ≤ n) (hm : n = S + h.2.1 + 1) : q = S + h.2.1 ∧ H1.size = S + (h.2.1 + 1) := by
  have hl : (kv_w b S dA h ++ [(q, e)])[h.2.1]? = some (q, e) := by
    rw [List.getElem?_append_right (by rw [kv_w_len]; exact Nat.le_refl _), kv_w_len]
    simp
  have h1 : q < H1.size := (hP _ _ hl).lt
  have h2 : S ≤ q := hD.2 _ _ hl
  have h3 : ¬ q < S + h.2.1 := by
    intro hlt
    have hk : (kv_w b S dA h ++ [(q, e)])[q - S]? = some (S + (q - S), kv_e b S dA (h.1 (q - S + 1))) := by
      rw [List.getElem?_append_left (by rw [kv_w_len]; omega)]
      unfold kv_w
      rw [List.getElem?_map, List.getElem?_range (by omega)]
      rfl
    have := hD.1 _ _ _ _ hk hl (by dsimp only; omega)
    omega
  omega
theorem kv_Y_new {nL b S n0 z0 : Nat} {dC : Nat → ClassId} {dI : Nat → Nat → Nat} {dA : Nat → ClassId} {s : State} {L : List (Option Value)} {h : kv_H} {ls : Array Slot} {H H1 : Heap} {locs : List Loc} {cells slots q z : Nat} {e : va_E} (hsz : s.heap.size = S + n0) (Y : kv_Y nL b S n0 z0 dC dI dA s L h ls H locs cells slots) (hP : va_P (dC, dI) vwCl (kv_w b S dA h ++ [(q, kv_e b S dA e)]) H1) (hD : va_D (fun q => S ≤ q) (kv_w b S dA h ++ [(q, kv_e b S dA e)])) (hS : va_S (fun q => S ≤ q) s.heap H1 locs) (hb : H1.size ≤ s.heap.size + (cells + 1)) : q = S + h.2.1 ∧ kv_Y nL b S n0 z0 dC dI dA s L (kv_n h e z) ls H1 locs (cells + 1) (slots + z) := by
  obtain ⟨y1, y2, y3, y4, y5, y6⟩ := Y
  obtain ⟨rfl, g2⟩ := kv_new_q hP hD hb (by omega)
  refine ⟨rfl, y1, ?_, g2, hS, ?_, ?_⟩
  · rw [kv_w_new]
    exact hP
  · show cells + 1 + n0 = h.2.1 + 1
    omega
  · show slots + z + z0 = h.2.2 + z
    omega
end KVC
section KVD
variable {cc : ByteArray} {nL : Nat} {own : String} {Ts : List Cond} {ret : Option FieldType} {ini : Bool} {fr lo : Nat} {sc : Option (Nat × (Nat → Int32))} {pc : Nat} {F G : kv_D}
def o_getf (ci kf : Nat) (F : kv_D) : kv_D := fun L st h v h' => match st with
  | .ref a :: r => match kv_g h a with
    | some (.inr q) => q.1 = ci ∧ ∃ x, q.2[kf]? = some x ∧ F L (x :: r) h v h'
    | _ => False
  | _ => False
def o_putf (ci kf : Nat) (ty : FieldType) (F : kv_D) : kv_D := fun L st h v h' => match st with
  | x :: .ref a :: r => match kv_g h a with
    | some (.inr q) => (q.1 = ci ∧ kf < q.2.length ∧ narrow ty x = x ∧ fits ty x = true) ∧ F L r (kv_p h a (.inr (ci, q.2.set kf x))) v h'
    | _ => False
  | _ => False
theorem k_getf {C : String} {T : u_T} {N ci index kf : Nat} (d : decode cc pc = .ok (.getfield index, 3)) (hcl : vwCl[ci]? = some (C, T, N)) (hin : ∀ w ∈ u_ws C T N, w ∈ Ts) (hk : kf < N) (hlink : Cond.fieldLink own index (T kf).1 (T kf).2.1 (T kf).2.2.1 ∈ Ts) (k : kv_S cc nL own Ts ret ini fr lo sc (pc + 3) F) : kv_S cc nL own Ts ret ini fr lo sc pc (o_getf ci kf F) := kv_mk (fun L st h v h' hF => by
  unfold o_getf at hF
  split at hF
  · rename_i a r
    split at hF
    · rename_i q hg
      obtain ⟨rfl, x, hx, hF⟩ := hF
      refine ⟨_, F, _, _, k, hF, fun p l e R s m args below meth c b S n0 z0 dC dI dA Q X ls H locs cells slots hc hs Y kk => ?_⟩
      exact va_get (D := (dC, dI)) (v := kv_v b S x) X.1 X.2.1 X.2.2.2.2.1 hin X.2.2.2.1 X.2.2.2.2.2.2.2.2.2.1.1 Y.2.1 (a - 1) (kv_w_get hg) hcl kf hk (X.2.2.2.2.1 _ hlink) (fun _ h9 => h9) (by rw [List.getElem?_map, hx]; rfl) d (kk ls Y.1)
    · exact hF.elim
  · exact hF.elim)
theorem k_getN {C : String} {T : u_T} {N ci index kf : Nat} {host : String} (d : decode cc pc = .ok (.getfield index, 3)) (hcl : vwCl[ci]? = some (C, T, N)) (hin : ∀ w ∈ u_ws C T N, w ∈ Ts) (hk : kf < N) (hlink : Cond.fieldLinkNest own index (T kf).1 (T kf).2.1 (T kf).2.2.1 host ∈ kv_nl) (k : kv_S cc nL own Ts ret ini fr lo sc (pc + 3) F) : kv_S cc nL own Ts ret ini fr lo sc pc (o_getf ci kf F) := kv_mk (fun L st h v h' hF => by
  unfold o_getf at hF
  split at hF
  · rename_i a r
    split at hF
    · rename_i q hg
      obtain ⟨rfl, x, hx, hF⟩ := hF
      refine ⟨_, F, _, _, k, hF, fun p l e R s m args below meth c b S n0 z0 dC dI dA Q X ls H locs cells slots hc hs Y kk => ?_⟩
      exact va_getN (D := (dC, dI)) (v := kv_v b S x) X.1 X.2.1 X.2.2.2.2.1 hin X.2.2.2.1 X.2.2.2.2.2.2.2.2.2.1.1 Y.2.1 (a - 1) (kv_w_get hg) hcl kf hk (va_Nw.use rfl (X.2.2.2.2.2.2.2.2.2.1.2 _ hlink)) (fun _ h9 => h9) (by rw [List.getElem?_map, hx]; rfl) d (kk ls Y.1)
    · exact hF.elim
  · exact hF.elim)
theorem k_putf {C : String} {T : u_T} {N ci index kf : Nat} {ty : FieldType} (d : decode cc pc = .ok (.putfield index, 3)) (hcl : vwCl[ci]? = some (C, T, N)) (hin : ∀ w ∈ u_ws C T N, w ∈ Ts) (ty0 : Nat → FieldType) (hty : ∀ k, k < N → parseFieldDescriptor (T k).2.2.1 = some (ty0 k)) (hnm : ∀ a, a < N → ∀ b, b < N → a ≠ b → (T a).2.1 ≠ (T b).2.1) (hk : kf < N) (hlink : Cond.fieldLink own index (T kf).1 (T kf).2.1 (T kf).2.2.1 ∈ Ts) (hfin : (T kf).2.2.2 = false) (hd : ty0 kf = ty) (k : kv_S cc nL own Ts ret ini fr lo sc (pc + 3) F) : kv_S cc nL own Ts ret ini fr lo sc pc (o_putf ci kf ty F) := by
  intro L st h v h' hF
  unfold o_putf at hF
  split at hF
  · rename_i x a r
    split at hF
    · rename_i q hg
      obtain ⟨⟨rfl, hl, hn, hfit⟩, hF⟩ := hF
      obtain ⟨mono, snd⟩ := k _ _ _ _ _ hF
      refine ⟨mono, ?_⟩
      intro p l e R s m args below meth c b S n0 z0 dC dI dA Q X hc hz kr ls H locs cells slots Y
      refine va_put (D := (dC, dI)) (A := fun q => S ≤ q) (H0 := H) (v := kv_v b S x) (ty := ty) X.1 X.2.1 X.2.2.2.2.1 hin ty0 hty hnm X.2.2.2.1 X.2.2.2.2.2.2.2.2.2.1.1 Y.2.1 (kv_w_D b S dA h) (kv_self Y.2.2.2.1) (a - 1) (kv_w_get hg) hcl kf hk (X.2.2.2.2.1 _ hlink) (fun _ h9 => h9) hfin (by rw [← hd]; exact hty kf hk) (kv_narrow hn) (kv_fits hfit) (by rw [List.length_map]; exact hl) d (fun H1 locs1 hP1 hD1 hS1 => ?_)
      refine kv_size (fun hz1 => ?_)
      rw [← List.map_set] at hP1
      exact snd p l e R s m args below meth c b S n0 z0 dC dI dA Q X hc hz kr ls H1 locs1 cells slots (kv_Y_put X.2.2.2.2.2.2.2.2.2.2.1 Y rfl Y.1 (by rw [← kv_w_set (.inr (q.1, q.2.set kf x)) hg]; exact hP1) hS1 hz1)
    · exact hF.elim
  · exact hF.elim
theorem k_putN {C : String} {T : u_T} {N ci index kf : Nat} {ty : FieldType} {host : String} (d : decode cc pc = .ok (.putfield index, 3)) (hcl : vwCl[ci]? = some (C, T, N)) (hin : ∀ w ∈ u_ws C T N, w ∈ Ts) (ty0 : Nat → FieldType) (hty : ∀ k, k < N → parseFieldDescriptor (T k).2.2.1 = some (ty0 k)) (hnm : ∀ a, a < N → ∀ b, b < N → a ≠ b → (T a).2.1 ≠ (T b).2.1) (hk : kf < N) (hlink : Cond.fieldLinkNest own index (T kf).1 (T kf).2.1 (T kf).2.2.1 host ∈ kv_nl) (hfin : (T kf).2.2.2 = false) (hd : ty0 kf = ty) (k : kv_S cc nL own Ts ret ini fr lo sc (pc + 3) F) : kv_S cc nL own Ts ret ini fr lo sc pc (o_putf ci kf ty F) := by
  intro L st h v h' hF
  unfold o_putf at hF
  split at hF
  · rename_i x a r
    split at hF
    · rename_i q hg
      obtain ⟨⟨rfl, hl, hn, hfit⟩, hF⟩ := hF
      obtain ⟨mono, snd⟩ := k _ _ _ _ _ hF
      refine ⟨mono, ?_⟩
      intro p l e R s m args below meth c b S n0 z0 dC dI dA Q X hc hz kr ls H locs cells slots Y
      refine va_putN (D := (dC, dI)) (A := fun q => S ≤ q) (H0 := H) (v := kv_v b S x) (ty := ty) X.1 X.2.1 X.2.2.2.2.1 hin ty0 hty hnm X.2.2.2.1 X.2.2.2.2.2.2.2.2.2.1.1 Y.2.1 (kv_w_D b S dA h) (kv_self Y.2.2.2.1) (a - 1) (kv_w_get hg) hcl kf hk (va_Nw.use rfl (X.2.2.2.2.2.2.2.2.2.1.2 _ hlink)) (fun _ h9 => h9) hfin (by rw [← hd]; exact hty kf hk) (kv_narrow hn) (kv_fits hfit) (by rw [List.length_map]; exact hl) d (fun H1 locs1 hP1 hD1 hS1 => ?_)
      refine kv_size (fun hz1 => ?_)
      rw [← List.map_set] at hP1
      exact snd p l e R s m args below meth c b S n0 z0 dC dI dA Q X hc hz kr ls H1 locs1 cells slots (kv_Y_put X.2.2.2.2.2.2.2.2.2.2.1 Y rfl Y.1 (by rw [← kv_w_set (.inr (q.1, q.2.set kf x)) hg]; exact hP1) hS1 hz1)
    · exact hF.elim
  · exact hF.elim
theorem k_putF {C : String} {T : u_T} {N ci index kf : Nat} {ty : FieldType} (d : decode cc pc = .ok (.putfield index, 3)) (hcl : vwCl[ci]? = some (C, T, N)) (hin : ∀ w ∈ u_ws C T N, w ∈ Ts) (ty0 : Nat → FieldType) (hty : ∀ k, k < N → parseFieldDescriptor (T k).2.2.1 = some (ty0 k)) (hnm : ∀ a, a < N → ∀ b, b < N → a ≠ b → (T a).2.1 ≠ (T b).2.1) (hk : kf < N) (hlink : Cond.fieldLink own index (T kf).1 (T kf).2.1 (T kf).2.2.1 ∈ Ts) (hfin : (T kf).2.2.2 = true) (hini : ini = true) (hdecl : (T kf).1 = own) (hd : ty0 kf = ty) (k : kv_S cc nL own Ts ret ini fr lo sc (pc + 3) F) : kv_S cc nL own Ts ret ini fr lo sc pc (o_putf ci kf ty F) := by
  intro L st h v h' hF
  unfold o_putf at hF
  split at hF
  · rename_i x a r
    split at hF
    · rename_i q hg
      obtain ⟨⟨rfl, hl, hn, hfit⟩, hF⟩ := hF
      obtain ⟨mono, snd⟩ := k _ _ _ _ _ hF
      refine ⟨mono, ?_⟩
      intro p l e R s m args below meth c b S n0 z0 dC dI dA Q X hc hz kr ls H locs cells slots Y
      refine va_putF (D := (dC, dI)) (A := fun q => S ≤ q) (H0 := H) (v := kv_v b S x) (ty := ty) X.1 X.2.1 X.2.2.2.2.1 hin ty0 hty hnm X.2.2.2.1 X.2.2.2.2.2.2.2.2.2.1.1 Y.2.1 (kv_w_D b S dA h) (kv_self Y.2.2.2.1) (a - 1) (kv_w_get hg) hcl kf hk (X.2.2.2.2.1 _ hlink) (fun _ h9 => h9) hfin (X.2.2.2.2.2.2.1 hini) hdecl (by rw [← hd]; exact hty kf hk) (kv_narrow hn) (kv_fits hfit) (by rw [List.length_map]; exact hl) d (fun H1 locs1 hP1 hD1 hS1 => ?_)
      refine kv_size (fun hz1 => ?_)
      rw [← List.map_set] at hP1
      exact snd p l e R s m args below meth c b S n0 z0 dC dI dA Q X hc hz kr ls H1 locs1 cells slots (kv_Y_put X.2.2.2.2.2.2.2.2.2.2.1 Y rfl Y.1 (by rw [← kv_w_set (.inr (q.1, q.2.set kf x)) hg]; exact hP1) hS1 hz1)
    · exact hF.elim
  · exact hF.elim
def o_iald (t : Nat) (F : kv_D) : kv_D := fun L st h v h' => match st with
  | .int i :: .ref a :: r => match kv_g h a with
    | some (.inl (t', n, .inl f)) => (t' = t ∧ 0 ≤ i ∧ i.toNatClampNeg < n) ∧ F L (.int (f i.toNatClampNeg) :: r) h v h'
    | _ => False
  | _ => False
def o_iast (t : Nat) (nar : Int32 → Int32) (F : kv_D) : kv_D := fun L st h v h' => match st with
  | .int x :: .int i :: .ref a :: r => match kv_g h a with
    | some (.inl (t', n, .inl f)) => (t' = t ∧ 0 ≤ i ∧ i.toNatClampNeg < n) ∧ F L r (kv_p h a (.inl (t, n, .inl (upd f i.toNatClampNeg (nar x))))) v h'
    | _ => False
  | _ => False
theorem k_iald {t : Nat} (d : decode cc pc = .ok (.iaload, 1)) (ht : kv_tl[t]? = some .int) (k : kv_S cc nL own Ts ret ini fr lo sc (pc + 1) F) : kv_S cc nL own Ts ret ini fr lo sc pc (o_iald t F) := kv_mk (fun L st h v h' hF => by
  unfold o_iald at hF
  split at hF
  · rename_i i a r
    split at hF
    · rename_i t' n f hg
      obtain ⟨⟨rfl, hi⟩, hF⟩ := hF
      refine ⟨_, F, _, _, k, hF, fun p l e R s m args below meth c b S n0 z0 dC dI dA Q X ls H locs cells slots hc hs Y kk => ?_⟩
      exact va_iald (D := (dC, dI)) X.1 X.2.1 X.2.2.2.2.2.2.2.2.2.1.1 Y.2.1 (a - 1) t' (kv_w_get hg) (kv_T_at ht) (kv_in_of hi) d (kk ls Y.1)
    · exact hF.elim
  · exact hF.elim)
theorem k_cald {t : Nat} (d : decode cc pc = .ok (.caload, 1)) (ht : kv_tl[t]? = some .char) (k : kv_S cc nL own Ts ret ini fr lo sc (pc + 1) F) : kv_S cc nL own Ts ret ini fr lo sc pc (o_iald t F) := kv_mk (fun L st h v h' hF => by
  unfold o_iald at hF
  split at hF
  · rename_i i a r
    split at hF
    · rename_i t' n f hg
      obtain ⟨⟨rfl, hi⟩, hF⟩ := hF
      refine ⟨_, F, _, _, k, hF, fun p l e R s m args below meth c b S n0 z0 dC dI dA Q X ls H locs cells slots hc hs Y kk => ?_⟩
      exact va_cald (D := (dC, dI)) X.1 X.2.1 X.2.2.2.2.2.2.2.2.2.1.1 Y.2.1 (a - 1) t' (kv_w_get hg) (kv_T_at ht) (kv_in_of hi) d (kk ls Y.1)
    · exact hF.elim
  · exact hF.elim)
theorem k_zald {t : Nat} (d : decode cc pc = .ok (.baload, 1)) (ht : kv_tl[t]? = some .boolean) (k : kv_S cc nL own Ts ret ini fr lo sc (pc + 1) F) : kv_S cc nL own Ts ret ini fr lo sc pc (o_iald t F) := kv_mk (fun L st h v h' hF => by
  unfold o_iald at hF
  split at hF
  · rename_i i a r
    split at hF
    · rename_i t' n f hg
      obtain ⟨⟨rfl, hi⟩, hF⟩ := hF
      refine ⟨_, F, _, _, k, hF, fun p l e R s m args below meth c b S n0 z0 dC dI dA Q X ls H locs cells slots hc hs Y kk => ?_⟩
      exact va_zald (D := (dC, dI)) X.1 X.2.1 X.2.2.2.2.2.2.2.2.2.1.1 Y.2.1 (a - 1) t' (kv_w_get hg) (kv_T_at ht) (kv_in_of hi) d (kk ls Y.1)
    · exact hF.elim
  · exact hF.elim)
theorem k_iast {t : Nat} (d : decode cc pc = .ok (.iastore, 1)) (ht : kv_tl[t]? = some .int) (k : kv_S cc nL own Ts ret ini fr lo sc (pc + 1) F) : kv_S cc nL own Ts ret ini fr lo sc pc (o_iast t (fun x => x) F) := by
  intro L st h v h' hF
  unfold o_iast at hF
  split at hF
  · rename_i x i a r
    split at hF
    · rename_i t' n f hg
      obtain ⟨⟨rfl, hi⟩, hF⟩ := hF
      obtain ⟨mono, snd⟩ := k _ _ _ _ _ hF
      refine ⟨mono, ?_⟩
      intro p l e R s m args below meth c b S n0 z0 dC dI dA Q X hc hz kr ls H locs cells slots Y
      refine va_iast (D := (dC, dI)) (A := fun q => S ≤ q) (H0 := H) X.1 X.2.1 X.2.2.2.2.2.2.2.2.2.1.1 Y.2.1 (kv_w_D b S dA h) (kv_self Y.2.2.2.1) (a - 1) t' (kv_w_get hg) (kv_T_at ht) (kv_in_of hi) d (fun H1 locs1 hP1 hD1 hS1 => ?_)
      refine kv_size (fun hz1 => ?_)
      exact snd p l e R s m args below meth c b S n0 z0 dC dI dA Q X hc hz kr ls H1 locs1 cells slots (kv_Y_put X.2.2.2.2.2.2.2.2.2.2.1 Y rfl Y.1 (by rw [← kv_w_set _ hg]; exact hP1) hS1 hz1)
    · exact hF.elim
  · exact hF.elim
theorem k_cast {t : Nat} (d : decode cc pc = .ok (.castore, 1)) (ht : kv_tl[t]? = some .char) (k : kv_S cc nL own Ts ret ini fr lo sc (pc + 1) F) : kv_S cc nL own Ts ret ini fr lo sc pc (o_iast t (vp_nar .char) F) := by
  intro L st h v h' hF
  unfold o_iast at hF
  split at hF
  · rename_i x i a r
    split at hF
    · rename_i t' n f hg
      obtain ⟨⟨rfl, hi⟩, hF⟩ := hF
      obtain ⟨mono, snd⟩ := k _ _ _ _ _ hF
      refine ⟨mono, ?_⟩
      intro p l e R s m args below meth c b S n0 z0 dC dI dA Q X hc hz kr ls H locs cells slots Y
      refine va_cast (D := (dC, dI)) (A := fun q => S ≤ q) (H0 := H) X.1 X.2.1 X.2.2.2.2.2.2.2.2.2.1.1 Y.2.1 (kv_w_D b S dA h) (kv_self Y.2.2.2.1) (a - 1) t' (kv_w_get hg) (kv_T_at ht) (kv_in_of hi) d (fun H1 locs1 hP1 hD1 hS1 => ?_)
      refine kv_size (fun hz1 => ?_)
      exact snd p l e R s m args below meth c b S n0 z0 dC dI dA Q X hc hz kr ls H1 locs1 cells slots (kv_Y_put X.2.2.2.2.2.2.2.2.2.2.1 Y rfl Y.1 (by rw [← kv_w_set _ hg]; exact hP1) hS1 hz1)
    · exact hF.elim
  · exact hF.elim
theorem k_zast {t : Nat} (d : decode cc pc = .ok (.bastore, 1)) (ht : kv_tl[t]? = some .boolean) (k : kv_S cc nL own Ts ret ini fr lo sc (pc + 1) F) : kv_S cc nL own Ts ret ini fr lo sc pc (o_iast t (vp_nar .boolean) F) := by
  intro L st h v h' hF
  unfold o_iast at hF
  split at hF
  · rename_i x i a r
    split at hF
    · rename_i t' n f hg
      obtain ⟨⟨rfl, hi⟩, hF⟩ := hF
      obtain ⟨mono, snd⟩ := k _ _ _ _ _ hF
      refine ⟨mono, ?_⟩
      intro p l e R s m args below meth c b S n0 z0 dC dI dA Q X hc hz kr ls H locs cells slots Y
      refine va_zast (D := (dC, dI)) (A := fun q => S ≤ q) (H0 := H) X.1 X.2.1 X.2.2.2.2.2.2.2.2.2.1.1 Y.2.1 (kv_w_D b S dA h) (kv_self Y.2.2.2.1) (a - 1) t' (kv_w_get hg) (kv_T_at ht) (kv_in_of hi) d (fun H1 locs1 hP1 hD1 hS1 => ?_)
      refine kv_size (fun hz1 => ?_)
      exact snd p l e R s m args below meth c b S n0 z0 dC dI dA Q X hc hz kr ls H1 locs1 cells slots (kv_Y_put X.2.2.2.2.2.2.2.2.2.2.1 Y rfl Y.1 (by rw [← kv_w_set _ hg]; exact hP1) hS1 hz1)
    · exact hF.elim
  · exact hF.elim
def o_alen (F : kv_D) : kv_D := fun L st h v h' => match st with
  | .ref a :: r => match kv_g h a with
    | some (.inl q) => q.1 < kv_tl.length ∧ F L (.int (Int32.ofNat q.2.1) :: r) h v h'
    | _ => False
  | _ => False
theorem k_alen (d : decode cc pc = .ok (.arraylength, 1)) (k : kv_S cc nL own Ts ret ini fr lo sc (pc + 1) F) : kv_S cc nL own Ts ret ini fr lo sc pc (o_alen F) := kv_mk (fun L st h v h' hF => by
  unfold o_alen at hF
  split at hF
  · rename_i a r
    split at hF
    · rename_i q hg
      obtain ⟨ht, hF⟩ := hF
      refine ⟨_, F, _, _, k, hF, fun p l e R s m args below meth c b S n0 z0 dC dI dA Q X ls H locs cells slots hc hs Y kk => ?_⟩
      exact va_alen (D := (dC, dI)) X.1 X.2.1 X.2.2.2.2.2.2.2.2.2.1.1 Y.2.1 (a - 1) q.1 (kv_w_get hg) (kv_T_at (List.getElem?_eq_getElem ht)) rfl d (kk ls Y.1)
    · exact hF.elim
  · exact hF.elim)
def o_aald (t : Nat) (F : kv_D) : kv_D := fun L st h v h' => match st with
  | .int i :: .ref a :: r => match kv_g h a with
    | some (.inl (t', n, .inr (.inr (.inr (.inr f))))) => (t' = t ∧ 0 ≤ i ∧ i.toNatClampNeg < n) ∧ F L (va_rf (f i.toNatClampNeg) :: r) h v h'
    | _ => False
  | _ => False
theorem k_aald {t : Nat} {C : String} (d : decode cc pc = .ok (.aaload, 1)) (ht : kv_tl[t]? = some (.object C)) (k : kv_S cc nL own Ts ret ini fr lo sc (pc + 1) F) : kv_S cc nL own Ts ret ini fr lo sc pc (o_aald t F) := kv_mk (fun L st h v h' hF => by
  unfold o_aald at hF
  split at hF
  · rename_i i a r
    split at hF
    · rename_i t' n f hg
      obtain ⟨⟨rfl, hi⟩, hF⟩ := hF
      refine ⟨_, F, _, _, k, hF, fun p l e R s m args below meth c b S n0 z0 dC dI dA Q X ls H locs cells slots hc hs Y kk => ?_⟩
      have kk1 := kk ls Y.1
      rw [List.map_cons, kv_rf] at kk1
      exact va_aldq (D := (dC, dI)) (f := fun j => (f j).map (kv_a b S)) X.1 X.2.1 X.2.2.2.2.2.2.2.2.2.1.1 Y.2.1 (a - 1) t' (kv_w_get hg) (kv_T_at ht) (kv_in_of hi) d kk1
    · exact hF.elim
  · exact hF.elim)
def o_aast (t ci : Nat) (F : kv_D) : kv_D := fun L st h v h' => match st with
  | .ref x :: .int i :: .ref a :: r => match kv_g h a with
    | some (.inl (t', n, .inr (.inr (.inr (.inr f))))) => (t' = t ∧ 0 ≤ i ∧ i.toNatClampNeg < n ∧ ∃ fs, kv_g h x = some (.inr (ci, fs))) ∧ F L r (kv_p h a (.inl (t, n, .inr (.inr (.inr (.inr (va_up f i.toNatClampNeg (some x)))))))) v h'
    | _ => False
  | _ => False
theorem k_aast {t ci : Nat} {q : vw_C} (d : decode cc pc = .ok (.aastore, 1)) (ht : kv_tl[t]? = some (.object q.1)) (hcl : vwCl[ci]? = some q) (k : kv_S cc nL own Ts ret ini fr lo sc (pc + 1) F) : kv_S cc nL own Ts ret ini fr lo sc pc (o_aast t ci F) := by
  intro L st h v h' hF
  unfold o_aast at hF
  split at hF
  · rename_i x i a r
    split at hF
    · rename_i t' n f hg
      obtain ⟨⟨rfl, hi0, hi1, fs, hx⟩, hF⟩ := hF
      obtain ⟨mono, snd⟩ := k _ _ _ _ _ hF
      refine ⟨mono, ?_⟩
      intro p l e R s m args below meth c b S n0 z0 dC dI dA Q X hc hz kr ls H locs cells slots Y
      refine va_astq (D := (dC, dI)) (A := fun q => S ≤ q) (H0 := H) (f := fun j => (f j).map (kv_a b S)) X.1 X.2.1 X.2.2.2.2.2.2.2.2.2.1.1 Y.2.1 (kv_w_D b S dA h) (kv_self Y.2.2.2.1) (a - 1) t' (x - 1) ci (kv_w_get hg) (kv_T_at ht) (kv_w_get hx) hcl (kv_in_of ⟨hi0, hi1⟩) d (fun H1 locs1 hP1 hD1 hS1 => ?_)
      refine kv_size (fun hz1 => ?_)
      have e9 : (fun j => (va_up f i.toNatClampNeg (some x) j).map (kv_a b S)) = va_up (fun j => (f j).map (kv_a b S)) i.toNatClampNeg (some (kv_a b S x)) := by
        funext j
        unfold va_up
        split <;> rfl
      refine snd p l e R s m args below meth c b S n0 z0 dC dI dA Q X hc hz kr ls H1 locs1 cells slots (kv_Y_put X.2.2.2.2.2.2.2.2.2.2.1 Y rfl Y.1 (by rw [← kv_w_set _ hg]; show va_P _ _ (List.set _ _ (_, .inl (_, _, .inr (.inr (.inr (.inr (fun j => (va_up f i.toNatClampNeg (some x) j).map (kv_a b S)))))))) _; rw [e9]; exact hP1) hS1 hz1)
    · exact hF.elim
  · exact hF.elim
def o_copy (t : Nat) (ty : FieldType) (F : kv_D) : kv_D := fun L st h v h' => match st with
  | .int n :: .int dp :: .ref a :: .int sp :: .ref a0 :: r => match kv_g h a0, kv_g h a with
    | some (.inl (t0, n0, .inl f)), some (.inl (t1, n1, .inl g)) => ((t0 = t ∧ t1 = t) ∧ 0 ≤ sp ∧ 0 ≤ dp ∧ 0 ≤ n ∧ sp.toNatClampNeg + n.toNatClampNeg ≤ n0 ∧ dp.toNatClampNeg + n.toNatClampNeg ≤ n1 ∧ (∀ i, i < n.toNatClampNeg → fits ty (.int (f (sp.toNatClampNeg + i))) = true) ∧ (r.map fun v => v.category).sum ≤ 8) ∧ F L r (kv_p h a (.inl (t, n1, .inl (va_cpy f g sp.toNatClampNeg dp.toNatClampNeg n.toNatClampNeg)))) v h'
    | _, _ => False
  | _ => False
theorem k_copy {t index : Nat} {ty : FieldType} (d : decode cc pc = .ok (.invokestatic index, 3)) (ht : kv_tl[t]? = some ty) (hp : refKind ty = false) (h1 : Cond.methodLink own index arraycopyName ∈ Ts) (h2 : Cond.native arraycopyName ∈ Ts) (h3 : Cond.static arraycopyName ∈ Ts) (h4 : Cond.initialized "java/lang/System" ∈ Ts) (hfr : 1 ≤ fr) (hlo : 8 + (nativeFrameWords "java/lang/System" "arraycopy" 5 + 11) ≤ lo) (k : kv_S cc nL own Ts ret ini fr lo sc (pc + 3) F) : kv_S cc nL own Ts ret ini fr lo sc pc (o_copy t ty F) := by
  intro L st h v h' hF
  unfold o_copy at hF
  split at hF
  · rename_i n dp a sp a0 r
    split at hF
    · rename_i t0 n0 f t1 n1 g hg0 hg1
      obtain ⟨⟨⟨rfl, rfl⟩, q1, q2, q3, q4, q5, q6, q7⟩, hF⟩ := hF
      obtain ⟨mono, snd⟩ := k _ _ _ _ _ hF
      refine ⟨mono, ?_⟩
      intro p l e R s m args below meth c b S n0 z0 dC dI dA Q X hc hz kr ls H locs cells slots Y
      have hx := X.2.2.2.2.1
      have hlo1 := X.2.2.2.2.2.2.2.2.1
      refine va_copyi (D := (dC, dI)) (A := fun q => S ≤ q) (H0 := H) (ty := ty) X.1 X.2.1 (X.2.2.1.trans Y.1.1.symm) X.2.2.2.1 (hx _ h1) (hx _ h2) (hx _ h3) (hx _ h4) X.2.2.2.2.2.2.2.2.2.1.1 Y.2.1 (kv_w_D b S dA h) (kv_self Y.2.2.2.1) (a0 - 1) (a - 1) t1 t1 (kv_w_get hg0) (kv_w_get hg1) (kv_T_at ht) (kv_T_at ht) hp (Int32.not_lt.mpr q1) (Int32.not_lt.mpr q2) (Int32.not_lt.mpr q3) q4 q5 q6 (Nat.le_trans hfr X.2.2.2.2.2.2.2.1) (by rw [kv_cats]; omega) d (fun H1 locs1 hP1 hD1 hS1 => ?_)
      refine kv_size (fun hz1 => ?_)
      exact snd p l e R s m args below meth c b S n0 z0 dC dI dA Q X hc hz kr ls H1 locs1 cells slots (kv_Y_put X.2.2.2.2.2.2.2.2.2.2.1 Y rfl Y.1 (by rw [← kv_w_set _ hg1]; exact hP1) hS1 hz1)
    · exact hF.elim
  · exact hF.elim
def o_new (ci N : Nat) (fs : List Value) (F : kv_D) : kv_D := fun L st h v h' => F L (.ref (h.2.1 + 1) :: st) (kv_n h (.inr (ci, fs)) N) v h'
theorem k_new {C : String} {T : u_T} {N ci index : Nat} {fs : List Value} (d : decode cc pc = .ok (.new index, 3)) (hcl : vwCl[ci]? = some (C, T, N)) (hin : ∀ w ∈ u_ws C T N, w ∈ Ts) (ty : Nat → FieldType) (hty : ∀ k, k < N → parseFieldDescriptor (T k).2.2.1 = some (ty k)) (h1 : Cond.classLink own index C ∈ Ts) (h2 : Cond.instantiable C N ∈ Ts) (h3 : Cond.initialized C ∈ Ts) (hfs : ∀ j, j < N → defaultValue (ty j) = vp_V fs j) (hm : ∀ b S, fs.map (kv_v b S) = fs) (k : kv_S cc nL own Ts ret ini fr lo sc (pc + 3) F) : kv_S cc nL own Ts ret ini fr lo sc pc (o_new ci N fs F) := by
  intro L st h v h' hF
  obtain ⟨mono, snd⟩ := k _ _ _ _ _ hF
  have mono : h.2.1 + 1 ≤ h'.2.1 ∧ h.2.2 + N ≤ h'.2.2 := mono
  refine ⟨by omega, ?_⟩
  intro p l e R s m args below meth c b S n0 z0 dC dI dA Q X hc hz kr ls H locs cells slots Y
  have hx := X.2.2.2.2.1
  have hsz := X.2.2.2.2.2.2.2.2.2.2.1
  have hc1 := Y.2.2.2.2.1
  have hz1 := Y.2.2.2.2.2
  refine va_new (D := (dC, dI)) (A := fun q => S ≤ q) (H0 := s.heap) (fs := fs) X.1 X.2.1 hx hin ty hty X.2.2.2.1 (hx _ h1) (hx _ h2) (hx _ h3) X.2.2.2.2.2.2.2.2.2.1.1 Y.2.1 (kv_w_D b S dA h) Y.2.2.2.1 (fun q hq => by show S ≤ q; omega) hcl hfs (by omega) (by omega) d (fun q H1 hP1 hD1 hS1 => ?_)
  refine kv_size (fun hz1 => ?_)
  rw [← hm b S] at hP1 hD1
  obtain ⟨rfl, Y1⟩ := kv_Y_new (z := N) (e := .inr (ci, fs)) hsz Y hP1 hD1 hS1 hz1
  exact snd p l e R s m args below meth c b S n0 z0 dC dI dA Q X hc hz kr ls H1 locs (cells + 1) (slots + N) Y1
def o_newa (t : Nat) (ty : FieldType) (F : kv_D) : kv_D := fun L st h v h' => match st with
  | .int n :: r => (0 ≤ n ∧ n.toNatClampNeg * componentBytes ty ≤ 536870912) ∧ F L (.ref (h.2.1 + 1) :: r) (kv_n h (.inl (t, n.toNatClampNeg, .inl (fun _ => 0))) n.toNatClampNeg) v h'
  | _ => False
theorem k_newa {t : Nat} {ty : FieldType} {atype : ArrayType} (d : decode cc pc = .ok (.newarray atype, 2)) (hty : newarray.typeOf atype = ty) (ht : kv_tl[t]? = some ty) (hdv : defaultValue ty = .int 0) (h1 : Cond.arrayClass ty ∈ Ts) (k : kv_S cc nL own Ts ret ini fr lo sc (pc + 2) F) : kv_S cc nL own Ts ret ini fr lo sc pc (o_newa t ty F) := by
  intro L st h v h' hF
  unfold o_newa at hF
  split at hF
  · rename_i n r
    obtain ⟨⟨q1, q2⟩, hF⟩ := hF
    obtain ⟨mono, snd⟩ := k _ _ _ _ _ hF
    have mono : h.2.1 + 1 ≤ h'.2.1 ∧ h.2.2 + n.toNatClampNeg ≤ h'.2.2 := mono
    refine ⟨by omega, ?_⟩
    intro p l e R s m args below meth c b S n0 z0 dC dI dA Q X hc hz kr ls H locs cells slots Y
    have hx := X.2.2.2.2.1
    have hsz := X.2.2.2.2.2.2.2.2.2.2.1
    have hc1 := Y.2.2.2.2.1
    have hz1 := Y.2.2.2.2.2
    refine va_newa (D := (dC, dI)) (A := fun q => S ≤ q) (H0 := s.heap) (a0 := (n.toNatClampNeg, .inl (fun _ => 0))) X.1 X.2.1 (by rw [hty]; exact hx _ h1) hty X.2.2.2.2.2.2.2.2.2.1.1 Y.2.1 (kv_w_D b S dA h) Y.2.2.2.1 (fun q hq => by show S ≤ q; omega) (fun cA => by rw [hdv]; rfl) (Int32.not_lt.mpr q1) rfl q2 (by omega) (by omega) d (fun q cA H1 hK1 hP1 hD1 hS1 => ?_)
    refine kv_size (fun hz1 => ?_)
    have hl : (kv_T dA ++ [(cA, ty)])[kv_tl.length]? = some (cA, ty) := by
      rw [List.getElem?_append_right (by simp [kv_T])]
      simp [kv_T]
    have hcA : cA = dA t := kv_RA_inj (hK1.2 _ _ hl).2 (X.2.2.2.2.2.2.2.2.2.1.1.2 t _ (kv_T_at ht)).2
    subst hcA
    obtain ⟨rfl, Y1⟩ := kv_Y_new (z := n.toNatClampNeg) (e := .inl (t, n.toNatClampNeg, .inl (fun _ => 0))) hsz Y hP1 hD1 hS1 hz1
    exact snd p l e R s m args below meth c b S n0 z0 dC dI dA Q X hc hz kr ls H1 locs (cells + 1) (slots + n.toNatClampNeg) Y1
  · exact hF.elim
def o_newq (t : Nat) (F : kv_D) : kv_D := fun L st h v h' => match st with
  | .int n :: r => (0 ≤ n ∧ n.toNatClampNeg * 4 ≤ 536870912) ∧ F L (.ref (h.2.1 + 1) :: r) (kv_n h (.inl (t, n.toNatClampNeg, .inr (.inr (.inr (.inr (fun _ => none)))))) n.toNatClampNeg) v h'
  | _ => False
theorem k_newq {t index : Nat} {C : String} (d : decode cc pc = .ok (.anewarray index, 3)) (ht : kv_tl[t]? = some (.object C)) (h1 : Cond.classLink own index C ∈ Ts) (h2 : Cond.arrayOver (.object C) ∈ kv_nl) (k : kv_S cc nL own Ts ret ini fr lo sc (pc + 3) F) : kv_S cc nL own Ts ret ini fr lo sc pc (o_newq t F) := by
  intro L st h v h' hF
  unfold o_newq at hF
  split at hF
  · rename_i n r
    obtain ⟨⟨q1, q2⟩, hF⟩ := hF
    obtain ⟨mono, snd⟩ := k _ _ _ _ _ hF
    have mono : h.2.1 + 1 ≤ h'.2.1 ∧ h.2.2 + n.toNatClampNeg ≤ h'.2.2 := mono
    refine ⟨by omega, ?_⟩
    intro p l e R s m args below meth c b S n0 z0 dC dI dA Q X hc hz kr ls H locs cells slots Y
    have hx := X.2.2.2.2.1
    have hsz := X.2.2.2.2.2.2.2.2.2.2.1
    have hc1 := Y.2.2.2.2.1
    have hz1 := Y.2.2.2.2.2
    refine va_newq (D := (dC, dI)) (A := fun q => S ≤ q) (H0 := s.heap) X.1 X.2.1 X.2.2.2.1 (hx _ h1) (X.2.2.2.2.2.2.2.2.2.1.2 _ h2) X.2.2.2.2.2.2.2.2.2.1.1 Y.2.1 (kv_w_D b S dA h) Y.2.2.2.1 (fun q hq => by show S ≤ q; omega) (Int32.not_lt.mpr q1) rfl q2 (by omega) (by omega) d (fun q cA H1 hK1 hP1 hD1 hS1 => ?_)
    refine kv_size (fun hz1 => ?_)
    have hl : (kv_T dA ++ [(cA, FieldType.object C)])[kv_tl.length]? = some (cA, .object C) := by
      rw [List.getElem?_append_right (by simp [kv_T])]
      simp [kv_T]
    have hcA : cA = dA t := kv_RA_inj (hK1.2 _ _ hl).2 (X.2.2.2.2.2.2.2.2.2.1.1.2 t _ (kv_T_at ht)).2
    subst hcA
    obtain ⟨rfl, Y1⟩ := kv_Y_new (z := n.toNatClampNeg) (e := .inl (t, n.toNatClampNeg, .inr (.inr (.inr (.inr (fun _ => none)))))) hsz Y hP1 hD1 hS1 hz1
    exact snd p l e R s m args below meth c b S n0 z0 dC dI dA Q X hc hz kr ls H1 locs (cells + 1) (slots + n.toNatClampNeg) Y1
  · exact hF.elim
def o_obj (F : kv_D) : kv_D := fun L st h v h' => match st with
  | .ref a :: r => (r.map fun v => v.category).sum ≤ 8 ∧ F L r h v h'
  | _ => False
theorem k_obj {index : Nat} (d : decode cc pc = .ok (.invokespecial index, 3)) (h1 : Cond.methodLink own index Lib.objectInit ∈ Ts) (h2 : Cond.instanceMethod Lib.objectInit ∈ Ts) (h3 : Cond.code Lib.objectInit ⟨#[0xb1]⟩ 1 none ∈ Ts) (hfr : 1 ≤ fr) (hlo : 20 ≤ lo) (k : kv_S cc nL own Ts ret ini fr lo sc (pc + 3) F) : kv_S cc nL own Ts ret ini fr lo sc pc (o_obj F) := kv_mk (fun L st h v h' hF => by
  unfold o_obj at hF
  split at hF
  · refine ⟨_, F, _, _, k, hF.2, fun p l e R s m args below meth c b S n0 z0 dC dI dA Q X ls H locs cells slots hc hs Y kk => ?_⟩
    have hx := X.2.2.2.2.1
    have hlo1 := X.2.2.2.2.2.2.2.2.1
    have hr := hF.1
    exact W.objInit X.1 X.2.1 X.2.2.2.1 (hx _ h1) (hx _ h2) (hx _ h3) rfl (X.2.2.1.trans Y.1.1.symm).symm rfl d (Nat.le_trans hfr X.2.2.2.2.2.2.2.1) (by show 2 * 0 + _ + 12 ≤ _; rw [kv_cats]; omega) (kk ls Y.1)
  · exact hF.elim)
def o_tsw (a : Int) (Fs : List kv_D) (D : kv_D) : kv_D := fun L st h v h' => match st with
  | .int x :: r => if x.toInt < a ∨ a + Fs.length ≤ x.toInt then D L r h v h' else ∃ F, Fs[(x.toInt - a).toNat]? = some F ∧ F L r h v h'
  | _ => False
theorem k_tsw {a z dflt : Int} {offs : Array Int} {len td : Nat} {Fs : List kv_D} {D : kv_D} (d : decode cc pc = .ok (.tableswitch dflt a z offs, len)) (hz : z + 1 = a + Fs.length) (hd : (pc : Int) + dflt = (td : Int)) (kd : kv_S cc nL own Ts ret ini fr lo sc td D) (ks : ∀ (i : Nat) (F : kv_D), Fs[i]? = some F → ∃ (off : Int) (t : Nat), offs[i]? = some off ∧ (pc : Int) + off = (t : Int) ∧ kv_S cc nL own Ts ret ini fr lo sc t F) : kv_S cc nL own Ts ret ini fr lo sc pc (o_tsw a Fs D) := kv_mk (fun L st h v h' hF => by
  unfold o_tsw at hF
  split at hF
  · split at hF
    · rename_i hx
      exact ⟨_, D, _, _, kd, hF, fun p l e R s m args below meth c b S n0 z0 dC dI dA Q X ls H locs cells slots hc hs Y kk => lv_tableOut X.1 X.2.1 d (by omega) hd (kk ls Y.1)⟩
    · rename_i hx
      obtain ⟨F, hF1, hF⟩ := hF
      obtain ⟨off, t, g1, g2, g3⟩ := ks _ F hF1
      exact ⟨_, F, _, _, g3, hF, fun p l e R s m args below meth c b S n0 z0 dC dI dA Q X ls H locs cells slots hc hs Y kk => lv_tableIn X.1 X.2.1 d (by omega) (by omega) g1 g2 (kk ls Y.1)⟩
  · exact hF.elim)
end KVD
end
section
section KVE
variable {b S : Nat} {dC : Nat → ClassId} {dI : Nat → Nat → Nat} {dA : Nat → ClassId}
def kv_Q (b S : Nat) (dC : Nat → ClassId) (dI : Nat → Nat → Nat) (dA : Nat → ClassId) (v1 : Option Value) (h1 : kv_H) : Array Value → State → Outcome → State → Prop := fun _ st oc t => oc = .returned (v1.map (kv_v b S)) ∧ va_P (dC, dI) vwCl (kv_w b S dA h1) t.heap ∧ t.heap.size = S + h1.2.1 ∧ va_F (fun q => S ≤ q) st t
def kv_Pc (b S : Nat) (dC : Nat → ClassId) (dI : Nat → Nat → Nat) (dA : Nat → ClassId) (as : List Value) (h : kv_H) : Array Value → State → Prop := va_Pc (as.map (kv_v b S)) (fun U => va_P (dC, dI) vwCl (kv_w b S dA h) U.heap ∧ U.heap.size = S + h.2.1 ∧ va_K (dC, dI) vwCl (kv_T dA) U ∧ kv_nw U)
/-- a method's contract: what it relates, it does -/
def kv_CT (y : MethodName) (ws : List Cond) (fr lo : Nat) (M : kv_M) : Prop := ∀ (as : List Value) (h : kv_H) (v : Option Value) (h' : kv_H), M as h v h' → (h.2.1 ≤ h'.2.1 ∧ h.2.2 ≤ h'.2.2) ∧ ∀ (l : Launch) (b S : Nat) (dC : Nat → ClassId) (dI : Nat → Nat → Nat) (dA : Nat → ClassId) (mc ms : Nat), h.2.1 + mc = h'.2.1 → h.2.2 + ms = h'.2.2 → Met l y ws { frames := fr, cells := mc, slots := ms, locals := lo } (kv_Pc b S dC dI dA as h) (kv_Q b S dC dI dA v h') mc ms (fun q => S ≤ q)
theorem kv_blind {as : List Value} {h : kv_H} : FrameBlind (kv_Pc b S dC dI dA as h) := fun a U g mk q => by
  obtain ⟨q0, q1, q2, q3⟩ := q
  exact ⟨q0, q1, q2, va_K.moved (u := U) (U := U.calling g mk a) (Vm.Alike.refl U.vm) q3.1, kv_nw_vm (u := U) (U := U.calling g mk a) rfl q3.2⟩
theorem kv_sl {vs : List Value} (hc : ∀ x ∈ vs, x.category = 1) : lg_sl vs = vs.map Slot.val := by
  induction vs with
  | nil => rfl
  | cons x t ih =>
    have h1 := hc x List.mem_cons_self
    have h2 := ih (fun y hy => hc y (List.mem_cons_of_mem _ hy))
    unfold lg_sl at h2 ⊢
    rw [List.flatMap_cons, h2]
    simp [h1]
theorem kv_entry {nL : Nat} {as : List Value} (hc : ∀ x ∈ as, x.category = 1) (hk : as.length ≤ nL) : kv_L b S ((lg_sl (as.map (kv_v b S)) ++ List.replicate (nL - (lg_sl (as.map (kv_v b S))).length) Slot.unset).toArray) nL (as.map some ++ List.replicate (nL - as.length) none) := by
  have hc2 : ∀ x ∈ as.map (kv_v b S), x.category = 1 := fun x hx => by
    obtain ⟨y, hy, rfl⟩ := List.mem_map.mp hx
    rw [kv_cat]
    exact hc y hy
  have hsl := kv_sl hc2
  have hlen : (lg_sl (as.map (kv_v b S))).length = as.length := by rw [hsl]; simp
  obtain ⟨g1, g2, -⟩ := lv_entry (as.map (kv_v b S)) (n := nL) (by omega)
  refine ⟨g1, g2, by simp; omega, fun i v hi hv => ?_⟩
  by_cases hlt : i < as.length
  · rw [List.getElem?_append_left (by simpa using hlt), List.getElem?_map, List.getElem?_eq_getElem hlt] at hi
    simp only [Option.map_some, Option.some.injEq] at hi
    subst hi
    rw [hsl]
    simp only [List.map_map, List.getElem?_toArray]
    rw [List.getElem?_append_left (by simpa using hlt), List.getElem?_map, List.getElem?_eq_getElem hlt]
    rfl
  · rw [List.getElem?_append_right (by simpa using hlt), List.getElem?_replicate] at hi
    split at hi <;> cases hi
def kv_in (k nL : Nat) (F : kv_D) : kv_M := fun as h v h' => as.length = k ∧ (∀ x ∈ as, x.category = 1) ∧ F (as.map some ++ List.replicate (nL - k) none) [] h v h'
theorem kv_met {y : MethodName} {cc : ByteArray} {nL k fr lo : Nat} {own : String} {Ts Ts' : List Cond} {ret : Option FieldType} {ini : Bool} {F : kv_D} (hy : plainName y.cls = true) (hcls : y.cls = own) (hw : Ts = Cond.code y cc nL ret :: Ts') (hk : k ≤ nL) (hini : ini = true → y.name = "<init>") (sd : kv_S cc nL own Ts ret ini fr lo none 0 F) : kv_CT y Ts fr lo (kv_in k nL F) := by
  intro as h v h' hM
  obtain ⟨hlen, hcat, hF⟩ := hM
  obtain ⟨mono, snd⟩ := sd _ _ _ _ _ hF
  refine ⟨mono, ?_⟩
  intro l b S dC dI dA mc ms hmc hms
  refine Met.ofW (cc := cc) (maxL := nL) (ret := ret) hy hw ?_
  intro p e s m args below meth c s₁ B hml hv
  obtain ⟨rfl, hP, hz, hK⟩ := hv
  have hx := B.exec
  have hb := B.bytes
  have hr := B.returns
  have hts := atoms_spec (ws := Ts) B.pre
  have hown : s.vm.findClass own = some m.cls := by rw [← hcls]; exact findClass_of_methodNamed B.named
  have hlocks := B.notSynchronized
  have hin : meth.name = y.name := (name_of_methodNamed B.named B.method).1
  subst hlen
  rw [lg_entry_eq]
  refine snd p l e _ s m _ below meth c b S h.2.1 h.2.2 dC dI dA _ ⟨hx, hb, hml, hown, hts, hr, fun q => by rw [hin]; exact hini q, Nat.le_refl _, Nat.le_refl _, hK, hz, fun N xs q => by cases q⟩ (by show h'.2.1 ≤ mc + h.2.1; omega) (by show h'.2.2 ≤ ms + h.2.2; omega) ?_ _ s.heap [] 0 0 ⟨kv_entry hcat hk, hP, hz, va_S.rf, by omega, by omega⟩
  intro pc' ls' L' H' locs' cells' slots' hret Y'
  obtain ⟨y1, y2, y3, y4, y5, y6⟩ := Y'
  have e1 : cells' = mc := by omega
  have e2 : slots' = ms := by omega
  subst e1
  subst e2
  rcases hret with ⟨rfl, rr, d⟩ | ⟨x, ty, rfl, rr, hn, d⟩ | ⟨a, ty, rfl, rr, ho, d⟩
  · exact W.vret hx hb (hr.trans rr) (fun t ht hW => ⟨rfl, by rw [ht]; exact y2, by rw [ht]; exact y3, y4.F ht⟩) y4.2.2 d
  · exact W.zret hx hb (hr.trans rr) hn (fun t ht hW => ⟨rfl, by rw [ht]; exact y2, by rw [ht]; exact y3, y4.F ht⟩) y4.2.2 d
  · exact W.aret hx hb (hr.trans rr) ho (Or.inr ⟨_, rfl⟩) (fun t ht hW => ⟨rfl, by rw [ht]; exact y2, by rw [ht]; exact y3, y4.F ht⟩) y4.2.2 d
theorem kv_run {p : Program} {l : Launch} {e : Env} {R : Room} {s : State} {m : MethodId} {args : Array Value} {below : List Frame} {meth : Method} {c : Code} {H : Heap} {locs : List Loc} {cells slots mc ms pc : Nat} {Q : State → Prop} {ls : Array Slot} {st0 rest : List Value} {v1 : Option Value} {h1 : kv_H} {aa : Array Value} (hr : va_Run p l e R s m args below meth c H locs cells slots mc ms (F0 m pc ls st0) rest (kv_Q b S dC dI dA v1 h1 aa) (fun q => S ≤ q)) (hS : va_S (fun q => S ≤ q) s.heap H locs)
    (kk : ∀ (H1 : Heap) (locs1 : List Loc), va_P (dC, dI) vwCl (kv_w b S dA h1) H1 → H1.size = S + h1.2.1 → va_S (fun q => S ≤ q) s.heap H1 locs1 → W p l e R s m args below meth c H1 locs1 (cells + mc) (slots + ms) Q (F0 m (pc + 3) ls ((v1.map (kv_v b S)).toList ++ rest))) : W p l e R s m args below meth c H locs cells slots Q (F0 m pc ls st0) := by
  intro T hT X
  obtain ⟨v, st₀, t, T', L, h0, X', hL, e1, e2, ⟨hv, hp, hz, hF⟩, st⟩ := hr T hT X
  have hv2 : v = v1.map (kv_v b S) := by injection hv
  subst hv2
  rw [va_F, h0] at hF
  obtain ⟨t2, a1, b1⟩ := kk T'.heap (locs ++ L) (by rw [e1]; exact hp) (by rw [e1]; exact hz)
    ⟨Nat.le_trans hS.1 (by rw [e1]; exact hF.1), fun q q1 q2 => by rw [e1, hF.2 q (Nat.lt_of_lt_of_le q1 hS.1) q2]; exact hS.2.1 q q1 q2, fun q hq => by
      rcases List.mem_append.mp hq with h | h
      · exact hS.2.2 q h
      · exact hL q h⟩ T' rfl X'
  exact ⟨t2, st t2 a1, b1⟩
end KVE
section KVF
variable {cc : ByteArray} {nL : Nat} {own : String} {Ts : List Cond} {ret : Option FieldType} {ini : Bool} {fr lo : Nat} {sc : Option (Nat × (Nat → Int32))} {pc : Nat} {F G : kv_D}
def o_callV (ci k : Nat) (M : kv_M) (F : kv_D) : kv_D := fun L st h v h' => ∃ (As : List Value) (a : Nat) (r : List Value) (fs : List Value) (v1 : Option Value) (h1 : kv_H), st = As.reverse ++ .ref a :: r ∧ As.length = k ∧ (r.map fun v => v.category).sum ≤ 8 ∧ kv_g h a = some (.inr (ci, fs)) ∧ M (.ref a :: As) h v1 h1 ∧ F L (v1.toList ++ r) h1 v h'
def o_callI (k : Nat) (M : kv_M) (F : kv_D) : kv_D := fun L st h v h' => ∃ (As : List Value) (a : Nat) (r : List Value) (v1 : Option Value) (h1 : kv_H), st = As.reverse ++ .ref a :: r ∧ As.length = k ∧ (r.map fun v => v.category).sum ≤ 8 ∧ M (.ref a :: As) h v1 h1 ∧ F L (v1.toList ++ r) h1 v h'
def o_callS (k : Nat) (M : kv_M) (F : kv_D) : kv_D := fun L st h v h' => ∃ (As : List Value) (r : List Value) (v1 : Option Value) (h1 : kv_H), st = As.reverse ++ r ∧ As.length = k ∧ (r.map fun v => v.category).sum ≤ 8 ∧ M As h v1 h1 ∧ F L (v1.toList ++ r) h1 v h' 
theorem k_callV {y : MethodName} {ws ws' : List Cond} {bytes : ByteArray} {maxL fr2 lo2 kn index : Nat} {rt : Option FieldType} {M : kv_M} {ci : Nat} {q : vw_C} (d : decode cc pc = .ok (.invokevirtual index, 3)) (Ct : kv_CT y ws fr2 lo2 M) (hw : ws = Cond.code y bytes maxL rt :: ws') (hG : GoodIn Ts (wsV own index q.1 y ws)) (hd : y.cls = q.1 ∧ y.cls ≠ "java/lang/invoke/MethodHandle" ∧ y.cls ≠ "java/lang/invoke/VarHandle" ∧ (parseMethodDescriptor y.desc).map (fun d => d.parameters.length) = some kn) (hcl : vwCl[ci]? = some q) (hfr : fr2 + 1 ≤ fr) (hlo : 8 + (maxL + 11) + lo2 ≤ lo) (k : kv_S cc nL own Ts ret ini fr lo sc (pc + 3) F) : kv_S cc nL own Ts ret ini fr lo sc pc (o_callV ci kn M F) := by
  intro L st h v h' hF
  obtain ⟨As, a, r, fs, v1, h1, rfl, hn, hr, hg, hM, hF⟩ := hF
  obtain ⟨m1, met⟩ := Ct _ _ _ _ hM
  obtain ⟨mono, snd⟩ := k _ _ _ _ _ hF
  refine ⟨⟨by omega, by omega⟩, ?_⟩
  intro p l e R s m args below meth c b S n0 z0 dC dI dA Q X hc hz kr ls H locs cells slots Y
  have hx := X.2.2.2.2.1
  have hcc := Y.2.2.2.2.1
  have hzz := Y.2.2.2.2.2
  have hMet := met l b S dC dI dA (h1.2.1 - h.2.1) (h1.2.2 - h.2.2) (by omega) (by omega)
  refine kv_run (rest := r.map (kv_v b S)) (va_runV (b := kv_a b S a) (As := As.map (kv_v b S)) (rest := r.map (kv_v b S)) ⟨X.1, X.2.1, X.2.2.1, X.2.2.2.1, hx⟩ hMet (cwV kn hx hG hw rfl rfl hd ⟨by have := X.2.2.2.2.2.2.2.1; show fr2 + 1 ≤ _; omega, by have := X.2.2.2.2.2.2.2.2.1; show 8 + (maxL + 11) + lo2 ≤ _; omega⟩) ⟨kv_blind, va_recv X.2.2.2.2.2.2.2.2.2.1.1 Y.2.1 hcl (kv_w_get hg), fun U hU hW => ⟨rfl, by rw [hU]; exact Y.2.1, by rw [hU]; exact Y.2.2.1, va_K.moved hW.alike X.2.2.2.2.2.2.2.2.2.1.1, kv_nw_warm hW X.2.2.2.2.2.2.2.2.2.1.2⟩⟩ rfl (by rw [List.length_map]; exact hn) Y.1.1 (by simp [kv_v]) (lv_room (by rw [kv_cats]; exact hr)) d ⟨by omega, by omega⟩) (Y.2.2.2.1) (fun H1 locs1 g1 g2 g3 => ?_)
  have e9 : (v1.map (kv_v b S)).toList ++ r.map (kv_v b S) = (v1.toList ++ r).map (kv_v b S) := by cases v1 <;> rfl
  rw [e9]
  exact snd p l e R s m args below meth c b S n0 z0 dC dI dA Q X hc hz kr ls H1 locs1 _ _ ⟨Y.1, g1, g2, g3, by omega, by omega⟩
theorem k_callVN {y : MethodName} {ws ws' : List Cond} {bytes : ByteArray} {maxL fr2 lo2 kn index : Nat} {rt : Option FieldType} {M : kv_M} {ci : Nat} {q : vw_C} {host : String} (d : decode cc pc = .ok (.invokevirtual index, 3)) (Ct : kv_CT y ws fr2 lo2 M) (hw : ws = Cond.code y bytes maxL rt :: ws') (hG : GoodIn Ts ws) (hl : Cond.methodLinkNest own index y host ∈ kv_nl) (hini : Cond.initialized y.cls ∈ Ts) (him : Cond.instanceMethod y ∈ Ts) (hsel : Cond.selects q.1 y y ∈ Ts) (hd : y.cls ≠ "java/lang/invoke/MethodHandle" ∧ y.cls ≠ "java/lang/invoke/VarHandle" ∧ (parseMethodDescriptor y.desc).map (fun d => d.parameters.length) = some kn) (hcl : vwCl[ci]? = some q) (hfr : fr2 + 1 ≤ fr) (hlo : 8 + (maxL + 11) + lo2 ≤ lo) (k : kv_S cc nL own Ts ret ini fr lo sc (pc + 3) F) : kv_S cc nL own Ts ret ini fr lo sc pc (o_callV ci kn M F) := by
  intro L st h v h' hF
  obtain ⟨As, a, r, fs, v1, h1, rfl, hn, hr, hg, hM, hF⟩ := hF
  obtain ⟨m1, met⟩ := Ct _ _ _ _ hM
  obtain ⟨mono, snd⟩ := k _ _ _ _ _ hF
  refine ⟨⟨by omega, by omega⟩, ?_⟩
  intro p l e R s m args below meth c b S n0 z0 dC dI dA Q X hc hz kr ls H locs cells slots Y
  have hx := X.2.2.2.2.1
  have hcc := Y.2.2.2.2.1
  have hzz := Y.2.2.2.2.2
  have hMet := met l b S dC dI dA (h1.2.1 - h.2.1) (h1.2.2 - h.2.2) (by omega) (by omega)
  refine kv_run (rest := r.map (kv_v b S)) (va_runVN (b := kv_a b S a) (As := As.map (kv_v b S)) (rest := r.map (kv_v b S)) ⟨X.1, X.2.1, X.2.2.1, X.2.2.2.1, hx⟩ hMet ⟨va_cnB kn hx hG hw rfl rfl (X.2.2.2.2.2.2.2.2.2.1.2 _ hl) (hx _ hini) hd ⟨by have := X.2.2.2.2.2.2.2.1; show fr2 + 1 ≤ _; omega, by have := X.2.2.2.2.2.2.2.2.1; show 8 + (maxL + 11) + lo2 ≤ _; omega⟩, hx _ him, hx _ hsel⟩ ⟨kv_blind, va_recv X.2.2.2.2.2.2.2.2.2.1.1 Y.2.1 hcl (kv_w_get hg), fun U hU hW => ⟨rfl, by rw [hU]; exact Y.2.1, by rw [hU]; exact Y.2.2.1, va_K.moved hW.alike X.2.2.2.2.2.2.2.2.2.1.1, kv_nw_warm hW X.2.2.2.2.2.2.2.2.2.1.2⟩⟩ rfl (by rw [List.length_map]; exact hn) Y.1.1 (by simp [kv_v]) (lv_room (by rw [kv_cats]; exact hr)) d ⟨by omega, by omega⟩) (Y.2.2.2.1) (fun H1 locs1 g1 g2 g3 => ?_)
  have e9 : (v1.map (kv_v b S)).toList ++ r.map (kv_v b S) = (v1.toList ++ r).map (kv_v b S) := by cases v1 <;> rfl
  rw [e9]
  exact snd p l e R s m args below meth c b S n0 z0 dC dI dA Q X hc hz kr ls H1 locs1 _ _ ⟨Y.1, g1, g2, g3, by omega, by omega⟩
theorem k_callS {y : MethodName} {ws ws' : List Cond} {bytes : ByteArray} {maxL fr2 lo2 kn index : Nat} {rt : Option FieldType} {M : kv_M} (d : decode cc pc = .ok (.invokestatic index, 3)) (Ct : kv_CT y ws fr2 lo2 M) (hw : ws = Cond.code y bytes maxL rt :: ws') (hG : GoodIn Ts (wsS own index y ws)) (hd : y.cls = own ∧ y.cls ≠ "java/lang/invoke/MethodHandle" ∧ y.cls ≠ "java/lang/invoke/VarHandle" ∧ (parseMethodDescriptor y.desc).map (fun d => d.parameters.length) = some kn) (hfr : fr2 + 1 ≤ fr) (hlo : 8 + (maxL + 11) + lo2 ≤ lo) (k : kv_S cc nL own Ts ret ini fr lo sc (pc + 3) F) : kv_S cc nL own Ts ret ini fr lo sc pc (o_callS kn M F) := by
  intro L st h v h' hF
  obtain ⟨As, r, v1, h1, rfl, hn, hr, hM, hF⟩ := hF
  obtain ⟨m1, met⟩ := Ct _ _ _ _ hM
  obtain ⟨mono, snd⟩ := k _ _ _ _ _ hF
  refine ⟨⟨by omega, by omega⟩, ?_⟩
  intro p l e R s m args below meth c b S n0 z0 dC dI dA Q X hc hz kr ls H locs cells slots Y
  have hx := X.2.2.2.2.1
  have hcc := Y.2.2.2.2.1
  have hzz := Y.2.2.2.2.2
  have hMet := met l b S dC dI dA (h1.2.1 - h.2.1) (h1.2.2 - h.2.2) (by omega) (by omega)
  refine kv_run (rest := r.map (kv_v b S)) (va_runS (As := As.map (kv_v b S)) (rest := r.map (kv_v b S)) ⟨X.1, X.2.1, X.2.2.1, X.2.2.2.1, hx⟩ hMet (cwS kn hx hG hw rfl rfl hd ⟨by have := X.2.2.2.2.2.2.2.1; show fr2 + 1 ≤ _; omega, by have := X.2.2.2.2.2.2.2.2.1; show 8 + (maxL + 11) + lo2 ≤ _; omega⟩) ⟨kv_blind, fun U hU hW => ⟨rfl, by rw [hU]; exact Y.2.1, by rw [hU]; exact Y.2.2.1, va_K.moved hW.alike X.2.2.2.2.2.2.2.2.2.1.1, kv_nw_warm hW X.2.2.2.2.2.2.2.2.2.1.2⟩⟩ rfl (by rw [List.length_map]; exact hn) Y.1.1 (by simp [kv_v]) (lv_room (by rw [kv_cats]; exact hr)) d ⟨by omega, by omega⟩) (Y.2.2.2.1) (fun H1 locs1 g1 g2 g3 => ?_)
  have e9 : (v1.map (kv_v b S)).toList ++ r.map (kv_v b S) = (v1.toList ++ r).map (kv_v b S) := by cases v1 <;> rfl
  rw [e9]
  exact snd p l e R s m args below meth c b S n0 z0 dC dI dA Q X hc hz kr ls H1 locs1 _ _ ⟨Y.1, g1, g2, g3, by omega, by omega⟩
theorem k_callSN {y : MethodName} {ws ws' : List Cond} {bytes : ByteArray} {maxL fr2 lo2 kn index : Nat} {rt : Option FieldType} {M : kv_M} {host : String} (d : decode cc pc = .ok (.invokestatic index, 3)) (Ct : kv_CT y ws fr2 lo2 M) (hw : ws = Cond.code y bytes maxL rt :: ws') (hG : GoodIn Ts ws) (hl : Cond.methodLinkNest own index y host ∈ kv_nl) (hini : Cond.initialized y.cls ∈ Ts) (hst : Cond.static y ∈ Ts) (hd : y.cls ≠ "java/lang/invoke/MethodHandle" ∧ y.cls ≠ "java/lang/invoke/VarHandle" ∧ (parseMethodDescriptor y.desc).map (fun d => d.parameters.length) = some kn) (hfr : fr2 + 1 ≤ fr) (hlo : 8 + (maxL + 11) + lo2 ≤ lo) (k : kv_S cc nL own Ts ret ini fr lo sc (pc + 3) F) : kv_S cc nL own Ts ret ini fr lo sc pc (o_callS kn M F) := by
  intro L st h v h' hF
  obtain ⟨As, r, v1, h1, rfl, hn, hr, hM, hF⟩ := hF
  obtain ⟨m1, met⟩ := Ct _ _ _ _ hM
  obtain ⟨mono, snd⟩ := k _ _ _ _ _ hF
  refine ⟨⟨by omega, by omega⟩, ?_⟩
  intro p l e R s m args below meth c b S n0 z0 dC dI dA Q X hc hz kr ls H locs cells slots Y
  have hx := X.2.2.2.2.1
  have hcc := Y.2.2.2.2.1
  have hzz := Y.2.2.2.2.2
  have hMet := met l b S dC dI dA (h1.2.1 - h.2.1) (h1.2.2 - h.2.2) (by omega) (by omega)
  refine kv_run (rest := r.map (kv_v b S)) (va_runSN (As := As.map (kv_v b S)) (rest := r.map (kv_v b S)) ⟨X.1, X.2.1, X.2.2.1, X.2.2.2.1, hx⟩ hMet ⟨va_cnB kn hx hG hw rfl rfl (X.2.2.2.2.2.2.2.2.2.1.2 _ hl) (hx _ hini) hd ⟨by have := X.2.2.2.2.2.2.2.1; show fr2 + 1 ≤ _; omega, by have := X.2.2.2.2.2.2.2.2.1; show 8 + (maxL + 11) + lo2 ≤ _; omega⟩, hx _ hst, trivial⟩ ⟨kv_blind, fun U hU hW => ⟨rfl, by rw [hU]; exact Y.2.1, by rw [hU]; exact Y.2.2.1, va_K.moved hW.alike X.2.2.2.2.2.2.2.2.2.1.1, kv_nw_warm hW X.2.2.2.2.2.2.2.2.2.1.2⟩⟩ rfl (by rw [List.length_map]; exact hn) Y.1.1 (by simp [kv_v]) (lv_room (by rw [kv_cats]; exact hr)) d ⟨by omega, by omega⟩) (Y.2.2.2.1) (fun H1 locs1 g1 g2 g3 => ?_)
  have e9 : (v1.map (kv_v b S)).toList ++ r.map (kv_v b S) = (v1.toList ++ r).map (kv_v b S) := by cases v1 <;> rfl
  rw [e9]
  exact snd p l e R s m args below meth c b S n0 z0 dC dI dA Q X hc hz kr ls H1 locs1 _ _ ⟨Y.1, g1, g2, g3, by omega, by omega⟩
theorem k_callI {y : MethodName} {ws ws' : List Cond} {bytes : ByteArray} {maxL fr2 lo2 kn index : Nat} {M : kv_M} (d : decode cc pc = .ok (.invokespecial index, 3)) (Ct : kv_CT y ws fr2 lo2 M) (hw : ws = Cond.code y bytes maxL none :: ws') (hG : GoodIn Ts ws) (hl : Cond.methodLink own index y ∈ Ts) (hini : Cond.initialized y.cls ∈ Ts) (him : Cond.instanceMethod y ∈ Ts) (hnm : y.name = "<init>") (hd : y.cls ≠ "java/lang/invoke/MethodHandle" ∧ y.cls ≠ "java/lang/invoke/VarHandle" ∧ (parseMethodDescriptor y.desc).map (fun d => d.parameters.length) = some kn) (hfr : fr2 + 1 ≤ fr) (hlo : 8 + (maxL + 11) + lo2 ≤ lo) (k : kv_S cc nL own Ts ret ini fr lo sc (pc + 3) F) : kv_S cc nL own Ts ret ini fr lo sc pc (o_callI kn M F) := by
  intro L st h v h' hF
  obtain ⟨As, a, r, v1, h1, rfl, hn, hr, hM, hF⟩ := hF
  obtain ⟨m1, met⟩ := Ct _ _ _ _ hM
  obtain ⟨mono, snd⟩ := k _ _ _ _ _ hF
  refine ⟨⟨by omega, by omega⟩, ?_⟩
  intro p l e R s m args below meth c b S n0 z0 dC dI dA Q X hc hz kr ls H locs cells slots Y
  have hx := X.2.2.2.2.1
  have hcc := Y.2.2.2.2.1
  have hzz := Y.2.2.2.2.2
  have hMet := met l b S dC dI dA (h1.2.1 - h.2.1) (h1.2.2 - h.2.2) (by omega) (by omega)
  refine kv_run (rest := r.map (kv_v b S)) (va_runI (b := kv_a b S a) (As := As.map (kv_v b S)) (rest := r.map (kv_v b S)) ⟨X.1, X.2.1, X.2.2.1, X.2.2.2.1, hx⟩ hMet ⟨callB_of kn hx hG hw rfl rfl (hx _ hini) (hx _ hl) hd ⟨by have := X.2.2.2.2.2.2.2.1; show fr2 + 1 ≤ _; omega, by have := X.2.2.2.2.2.2.2.2.1; show 8 + (maxL + 11) + lo2 ≤ _; omega⟩, hnm, hx _ him⟩ ⟨kv_blind, fun U hU hW => ⟨rfl, by rw [hU]; exact Y.2.1, by rw [hU]; exact Y.2.2.1, va_K.moved hW.alike X.2.2.2.2.2.2.2.2.2.1.1, kv_nw_warm hW X.2.2.2.2.2.2.2.2.2.1.2⟩⟩ rfl (by rw [List.length_map]; exact hn) Y.1.1 (by simp [kv_v]) (lv_room (by rw [kv_cats]; exact hr)) d ⟨by omega, by omega⟩) (Y.2.2.2.1) (fun H1 locs1 g1 g2 g3 => ?_)
  have e9 : (v1.map (kv_v b S)).toList ++ r.map (kv_v b S) = (v1.toList ++ r).map (kv_v b S) := by cases v1 <;> rfl
  rw [e9]
  exact snd p l e R s m args below meth c b S n0 z0 dC dI dA Q X hc hz kr ls H1 locs1 _ _ ⟨Y.1, g1, g2, g3, by omega, by omega⟩
theorem k_callIN {y : MethodName} {ws ws' : List Cond} {bytes : ByteArray} {maxL fr2 lo2 kn index : Nat} {M : kv_M} {host : String} (d : decode cc pc = .ok (.invokespecial index, 3)) (Ct : kv_CT y ws fr2 lo2 M) (hw : ws = Cond.code y bytes maxL none :: ws') (hG : GoodIn Ts ws) (hl : Cond.methodLinkNest own index y host ∈ kv_nl) (hini : Cond.initialized y.cls ∈ Ts) (him : Cond.instanceMethod y ∈ Ts) (hnm : y.name = "<init>") (hd : y.cls ≠ "java/lang/invoke/MethodHandle" ∧ y.cls ≠ "java/lang/invoke/VarHandle" ∧ (parseMethodDescriptor y.desc).map (fun d => d.parameters.length) = some kn) (hfr : fr2 + 1 ≤ fr) (hlo : 8 + (maxL + 11) + lo2 ≤ lo) (k : kv_S cc nL own Ts ret ini fr lo sc (pc + 3) F) : kv_S cc nL own Ts ret ini fr lo sc pc (o_callI kn M F) := by
  intro L st h v h' hF
  obtain ⟨As, a, r, v1, h1, rfl, hn, hr, hM, hF⟩ := hF
  obtain ⟨m1, met⟩ := Ct _ _ _ _ hM
  obtain ⟨mono, snd⟩ := k _ _ _ _ _ hF
  refine ⟨⟨by omega, by omega⟩, ?_⟩
  intro p l e R s m args below meth c b S n0 z0 dC dI dA Q X hc hz kr ls H locs cells slots Y
  have hx := X.2.2.2.2.1
  have hcc := Y.2.2.2.2.1
  have hzz := Y.2.2.2.2.2
  have hMet := met l b S dC dI dA (h1.2.1 - h.2.1) (h1.2.2 - h.2.2) (by omega) (by omega)
  refine kv_run (rest := r.map (kv_v b S)) (va_runIN (b := kv_a b S a) (As := As.map (kv_v b S)) (rest := r.map (kv_v b S)) ⟨X.1, X.2.1, X.2.2.1, X.2.2.2.1, hx⟩ hMet ⟨va_cnB kn hx hG hw rfl rfl (X.2.2.2.2.2.2.2.2.2.1.2 _ hl) (hx _ hini) hd ⟨by have := X.2.2.2.2.2.2.2.1; show fr2 + 1 ≤ _; omega, by have := X.2.2.2.2.2.2.2.2.1; show 8 + (maxL + 11) + lo2 ≤ _; omega⟩, hnm, hx _ him⟩ ⟨kv_blind, fun U hU hW => ⟨rfl, by rw [hU]; exact Y.2.1, by rw [hU]; exact Y.2.2.1, va_K.moved hW.alike X.2.2.2.2.2.2.2.2.2.1.1, kv_nw_warm hW X.2.2.2.2.2.2.2.2.2.1.2⟩⟩ rfl (by rw [List.length_map]; exact hn) Y.1.1 (by simp [kv_v]) (lv_room (by rw [kv_cats]; exact hr)) d ⟨by omega, by omega⟩) (Y.2.2.2.1) (fun H1 locs1 g1 g2 g3 => ?_)
  have e9 : (v1.map (kv_v b S)).toList ++ r.map (kv_v b S) = (v1.toList ++ r).map (kv_v b S) := by cases v1 <;> rfl
  rw [e9]
  exact snd p l e R s m args below meth c b S n0 z0 dC dI dA Q X hc hz kr ls H1 locs1 _ _ ⟨Y.1, g1, g2, g3, by omega, by omega⟩
def kv_fix (B : (Nat → kv_D) → Nat → kv_D) : Nat → Nat → kv_D
  | 0 => fun _ _ _ _ _ _ => False
  | n + 1 => B (kv_fix B n)
def kv_lim (B : (Nat → kv_D) → Nat → kv_D) : Nat → kv_D := fun pc L st h v h' => ∃ n, kv_fix B n pc L st h v h'
theorem kv_lim_S {B : (Nat → kv_D) → Nat → kv_D} (hB : ∀ K : Nat → kv_D, (∀ pc, kv_S cc nL own Ts ret ini fr lo sc pc (K pc)) → ∀ pc, kv_S cc nL own Ts ret ini fr lo sc pc (B K pc)) : ∀ pc, kv_S cc nL own Ts ret ini fr lo sc pc (kv_lim B pc) := by
  intro pc L st h v h' hn
  obtain ⟨n, hn⟩ := hn
  have key : ∀ n pc, kv_S cc nL own Ts ret ini fr lo sc pc (kv_fix B n pc) := by
    intro n
    induction n with
    | zero => intro pc; exact kv_none
    | succ n ih => exact hB _ ih
  exact key n pc L st h v h' hn
theorem kv_lim_step {B : (Nat → kv_D) → Nat → kv_D} {q : Nat} {L : List (Option Value)} {st : List Value} {h : kv_H} {v : Option Value} {h' : kv_H} (hs : ∃ n, B (kv_fix B n) q L st h v h') : kv_lim B q L st h v h' := by
  obtain ⟨n, hn⟩ := hs
  exact ⟨n + 1, hn⟩
end KVF
end
section
section KVG
variable {h h1 h' : kv_H} {a c z : Nat} {e e0 : va_E} {F : kv_D} {M : kv_M} {L : List (Option Value)} {r : List Value} {v v1 : Option Value}
theorem kv_g_of (h1 : 1 ≤ a) (h2 : a ≤ h.2.1) (h3 : h.1 a = e) : kv_g h a = some e := by
  unfold kv_g
  rw [if_pos ⟨h1, h2⟩, h3]
theorem kv_gp_self (hg : kv_g h a = some e0) : kv_g (kv_p h a e) a = some e := by
  obtain ⟨h1, h2, -⟩ := kv_g_le hg
  exact kv_g_of h1 h2 (va_up_self _ _ _)
theorem kv_gp_ne (hne : c ≠ a) : kv_g (kv_p h a e) c = kv_g h c := by
  unfold kv_g kv_p
  simp only [va_up_ne _ _ hne]
theorem kv_gn_self : kv_g (kv_n h e z) (h.2.1 + 1) = some e := kv_g_of (by omega) (Nat.le_refl _) (va_up_self _ _ _)
theorem kv_gn_old (hg : kv_g h a = some e0) : kv_g (kv_n h e z) a = some e0 := by
  obtain ⟨h1, h2, h3⟩ := kv_g_le hg
  exact kv_g_of h1 (by show a ≤ h.2.1 + 1; omega) (by show va_up h.1 (h.2.1 + 1) e a = e0; rw [va_up_ne _ _ (by omega)]; exact h3)
/-- what changed: the cells of P alone -/
def kv_fr (P : Nat → Prop) (h h' : kv_H) : Prop := h'.2 = h.2 ∧ ∀ a, ¬ P a → kv_g h' a = kv_g h a
theorem kv_fr.rf {P : Nat → Prop} : kv_fr P h h := ⟨rfl, fun _ _ => rfl⟩
theorem kv_fr.tr {P : Nat → Prop} (x : kv_fr P h h1) (y : kv_fr P h1 h') : kv_fr P h h' := ⟨y.1.trans x.1, fun a ha => (y.2 a ha).trans (x.2 a ha)⟩
theorem kv_fr.mono {P Q : Nat → Prop} (x : kv_fr P h h1) (hpq : ∀ a, P a → Q a) : kv_fr Q h h1 := ⟨x.1, fun a ha => x.2 a (fun q => ha (hpq a q))⟩
theorem kv_fr.p {P : Nat → Prop} (x : kv_fr P h h1) (hp : P a) : kv_fr P h (kv_p h1 a e) := ⟨x.1, fun c hc => by
  rw [kv_gp_ne (fun q => hc (by rw [q]; exact hp))]
  exact x.2 c hc⟩
theorem kv_fr.at {P : Nat → Prop} (x : kv_fr P h h1) (hg : kv_g h a = some e) (hp : ¬ P a) : kv_g h1 a = some e := (x.2 a hp).trans hg
theorem e_callV0 {ci : Nat} {fs : List Value} (hg : kv_g h a = some (.inr (ci, fs))) (hM : M [.ref a] h v1 h1) (hr : (r.map fun v => v.category).sum ≤ 8) (hF : F L (v1.toList ++ r) h1 v h') : o_callV ci 0 M F L (.ref a :: r) h v h' := ⟨[], a, r, fs, v1, h1, rfl, rfl, hr, hg, hM, hF⟩
theorem e_callI0 (hM : M [.ref a] h v1 h1) (hr : (r.map fun v => v.category).sum ≤ 8) (hF : F L (v1.toList ++ r) h1 v h') : o_callI 0 M F L (.ref a :: r) h v h' := ⟨[], a, r, v1, h1, rfl, rfl, hr, hM, hF⟩
theorem e_callS0 (hM : M [] h v1 h1) (hr : (r.map fun v => v.category).sum ≤ 8) (hF : F L (v1.toList ++ r) h1 v h') : o_callS 0 M F L (r) h v h' := ⟨[], r, v1, h1, rfl, rfl, hr, hM, hF⟩
theorem e_callV1 {ci : Nat} {fs : List Value} {x1 : Value} (hg : kv_g h a = some (.inr (ci, fs))) (hM : M [.ref a, x1] h v1 h1) (hr : (r.map fun v => v.category).sum ≤ 8) (hF : F L (v1.toList ++ r) h1 v h') : o_callV ci 1 M F L (x1 :: .ref a :: r) h v h' := ⟨[x1], a, r, fs, v1, h1, rfl, rfl, hr, hg, hM, hF⟩
theorem e_callI1 {x1 : Value} (hM : M [.ref a, x1] h v1 h1) (hr : (r.map fun v => v.category).sum ≤ 8) (hF : F L (v1.toList ++ r) h1 v h') : o_callI 1 M F L (x1 :: .ref a :: r) h v h' := ⟨[x1], a, r, v1, h1, rfl, rfl, hr, hM, hF⟩
theorem e_callS1 {x1 : Value} (hM : M [x1] h v1 h1) (hr : (r.map fun v => v.category).sum ≤ 8) (hF : F L (v1.toList ++ r) h1 v h') : o_callS 1 M F L (x1 :: r) h v h' := ⟨[x1], r, v1, h1, rfl, rfl, hr, hM, hF⟩
theorem e_callV2 {ci : Nat} {fs : List Value} {x1 x2 : Value} (hg : kv_g h a = some (.inr (ci, fs))) (hM : M [.ref a, x1, x2] h v1 h1) (hr : (r.map fun v => v.category).sum ≤ 8) (hF : F L (v1.toList ++ r) h1 v h') : o_callV ci 2 M F L (x2 :: x1 :: .ref a :: r) h v h' := ⟨[x1, x2], a, r, fs, v1, h1, rfl, rfl, hr, hg, hM, hF⟩
theorem e_callI2 {x1 x2 : Value} (hM : M [.ref a, x1, x2] h v1 h1) (hr : (r.map fun v => v.category).sum ≤ 8) (hF : F L (v1.toList ++ r) h1 v h') : o_callI 2 M F L (x2 :: x1 :: .ref a :: r) h v h' := ⟨[x1, x2], a, r, v1, h1, rfl, rfl, hr, hM, hF⟩
theorem e_callS2 {x1 x2 : Value} (hM : M [x1, x2] h v1 h1) (hr : (r.map fun v => v.category).sum ≤ 8) (hF : F L (v1.toList ++ r) h1 v h') : o_callS 2 M F L (x2 :: x1 :: r) h v h' := ⟨[x1, x2], r, v1, h1, rfl, rfl, hr, hM, hF⟩
theorem e_callV3 {ci : Nat} {fs : List Value} {x1 x2 x3 : Value} (hg : kv_g h a = some (.inr (ci, fs))) (hM : M [.ref a, x1, x2, x3] h v1 h1) (hr : (r.map fun v => v.category).sum ≤ 8) (hF : F L (v1.toList ++ r) h1 v h') : o_callV ci 3 M F L (x3 :: x2 :: x1 :: .ref a :: r) h v h' := ⟨[x1, x2, x3], a, r, fs, v1, h1, rfl, rfl, hr, hg, hM, hF⟩
theorem e_callI3 {x1 x2 x3 : Value} (hM : M [.ref a, x1, x2, x3] h v1 h1) (hr : (r.map fun v => v.category).sum ≤ 8) (hF : F L (v1.toList ++ r) h1 v h') : o_callI 3 M F L (x3 :: x2 :: x1 :: .ref a :: r) h v h' := ⟨[x1, x2, x3], a, r, v1, h1, rfl, rfl, hr, hM, hF⟩
theorem e_callS3 {x1 x2 x3 : Value} (hM : M [x1, x2, x3] h v1 h1) (hr : (r.map fun v => v.category).sum ≤ 8) (hF : F L (v1.toList ++ r) h1 v h') : o_callS 3 M F L (x3 :: x2 :: x1 :: r) h v h' := ⟨[x1, x2, x3], r, v1, h1, rfl, rfl, hr, hM, hF⟩
theorem e_callV4 {ci : Nat} {fs : List Value} {x1 x2 x3 x4 : Value} (hg : kv_g h a = some (.inr (ci, fs))) (hM : M [.ref a, x1, x2, x3, x4] h v1 h1) (hr : (r.map fun v => v.category).sum ≤ 8) (hF : F L (v1.toList ++ r) h1 v h') : o_callV ci 4 M F L (x4 :: x3 :: x2 :: x1 :: .ref a :: r) h v h' := ⟨[x1, x2, x3, x4], a, r, fs, v1, h1, rfl, rfl, hr, hg, hM, hF⟩
theorem e_callI4 {x1 x2 x3 x4 : Value} (hM : M [.ref a, x1, x2, x3, x4] h v1 h1) (hr : (r.map fun v => v.category).sum ≤ 8) (hF : F L (v1.toList ++ r) h1 v h') : o_callI 4 M F L (x4 :: x3 :: x2 :: x1 :: .ref a :: r) h v h' := ⟨[x1, x2, x3, x4], a, r, v1, h1, rfl, rfl, hr, hM, hF⟩
theorem e_callS4 {x1 x2 x3 x4 : Value} (hM : M [x1, x2, x3, x4] h v1 h1) (hr : (r.map fun v => v.category).sum ≤ 8) (hF : F L (v1.toList ++ r) h1 v h') : o_callS 4 M F L (x4 :: x3 :: x2 :: x1 :: r) h v h' := ⟨[x1, x2, x3, x4], r, v1, h1, rfl, rfl, hr, hM, hF⟩
theorem e_callV5 {ci : Nat} {fs : List Value} {x1 x2 x3 x4 x5 : Value} (hg : kv_g h a = some (.inr (ci, fs))) (hM : M [.ref a, x1, x2, x3, x4, x5] h v1 h1) (hr : (r.map fun v => v.category).sum ≤ 8) (hF : F L (v1.toList ++ r) h1 v h') : o_callV ci 5 M F L (x5 :: x4 :: x3 :: x2 :: x1 :: .ref a :: r) h v h' := ⟨[x1, x2, x3, x4, x5], a, r, fs, v1, h1, rfl, rfl, hr, hg, hM, hF⟩
theorem e_callI5 {x1 x2 x3 x4 x5 : Value} (hM : M [.ref a, x1, x2, x3, x4, x5] h v1 h1) (hr : (r.map fun v => v.category).sum ≤ 8) (hF : F L (v1.toList ++ r) h1 v h') : o_callI 5 M F L (x5 :: x4 :: x3 :: x2 :: x1 :: .ref a :: r) h v h' := ⟨[x1, x2, x3, x4, x5], a, r, v1, h1, rfl, rfl, hr, hM, hF⟩
theorem e_callS5 {x1 x2 x3 x4 x5 : Value} (hM : M [x1, x2, x3, x4, x5] h v1 h1) (hr : (r.map fun v => v.category).sum ≤ 8) (hF : F L (v1.toList ++ r) h1 v h') : o_callS 5 M F L (x5 :: x4 :: x3 :: x2 :: x1 :: r) h v h' := ⟨[x1, x2, x3, x4, x5], r, v1, h1, rfl, rfl, hr, hM, hF⟩
end KVG
end
