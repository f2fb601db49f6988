/-! THE LAW: its cases -/
theorem bpL_6 : ((Int8.ofInt 6).toInt32).toInt = 6 := by decide
theorem bpL_31 : ((Int8.ofInt 31).toInt32).toInt = 31 := by decide
def ll (i : Int) : aL := [(0, .inr (.inr 276)), (1, .inr (.inr 0)), (2, .inr (.inr 245)), (3, .inl i)]
section LC
variable {l : Launch} {p : Program} {e : Env} {s : State} {m : MethodId} {below : List Frame} {meth : Method} {c : Code} {b B0 L : Nat} {xs : Nat → Int32} {D : va_G} {cy : Nat → ClassId} {Z : State → Prop}
theorem st_feed {S : aS} {x0 x1 x2 x3 x4 : Int} {Q : Option aV → aS → Prop} (h : spX11_feed [.inr (.inr 0), .inl x0, .inl x1, .inl x2, .inl x3, .inl x4] S Q) : spX11_feed [.inr (.inr 0), .inl x0, .inl x1, .inl x2, .inl x3, .inl x4] S (ityp Q) := by
  unfold spX11_feed at h ⊢
  simp only [ityp_i]
  exact h
theorem jL_218 : jt 218 856 = some 1074 := rfl
theorem lC_feed (hc : cLx p s m meth c b B0 L xs D cy) {i a : Int} {U : aS} (hI : Inv U) (hg : ∀ U, Inv U → kL p l e s m below meth c b B0 D cy Z 1074 (ll i) [] U) : kL p l e s m below meth c b B0 D cy Z 218 (ll i) [.inl a, .inl a] U := by
  refine wpL_go hc (fun pc => true) 0 dL_law_218 ?_
  simp only [wpL_s, l_if_icmp, e_wIc_eq, jL_218]
  exact ⟨fun _ => hg U hI, fun z => absurd trivial z⟩
set_option maxRecDepth 20000 in
set_option maxHeartbeats 4000000 in
theorem lB_feed (hc : cLx p s m meth c b B0 L xs D cy) {i a : Int} {T : aS} (h0 : 0 ≤ i) (h6 : i + 6 ≤ L) (h : spX12_feed [.inr (.inr 245), .inl (xs (i + 1).toNat).toInt, .inl (xs (i + 2).toNat).toInt, .inl (xs (i + 3).toNat).toInt, .inl (xs (i + 4).toNat).toInt, .inl (xs (i + 5).toNat).toInt] T (Eqv (some (.inl a)))) (hg : ∀ U, Inv U → kL p l e s m below meth c b B0 D cy Z 1074 (ll i) [] U) : kL p l e s m below meth c b B0 D cy Z 189 (ll i) [.inl a] T := by
  have hL : L ≤ 3072 := hc.2.2.2.2.2.2.2.2.2.2.2
  refine wpL_ok hc (fun pc => pc == 218) 27 189 _ [.inl a] T ?_
  unfold ll
  simp only [wpL_s, wpC_f, wpC_t, l_iaload, l_alen, l_call, l_aload_n, l_iload_n, l_iconst, l_bipush, l_iadd, l_isub, l_iand, l_if_icmp, l_goto, l_iinc, l_tsw, l_cl, l_c0, l_c1, e_wLd, e_wLd0, e_wLd1, e_wLd2, e_get1, e_get2, e_wJ, e_wJo, f40, f41, f42, f43, Nat.reduceAdd, Nat.reduceBEq, Nat.reduceMul, eq_self, true_or, or_true, true_and, e_wI2, e_wIc_eq, e_wIc_gt, e_pop0, e_pop1, e_tl0, e_tl1, ic_1, ic_2, ic_3, ic_4, ic_5, bpL_6, bpL_31, tbC_17, dL_law_189, dL_law_190, dL_law_191, dL_law_192, dL_law_193, dL_law_194, dL_law_195, dL_law_196, dL_law_197, dL_law_198, dL_law_199, dL_law_200, dL_law_201, dL_law_202, dL_law_203, dL_law_204, dL_law_205, dL_law_206, dL_law_207, dL_law_208, dL_law_209, dL_law_210, dL_law_211, dL_law_212, dL_law_213, dL_law_214, dL_law_215]
  simp (disch := omega) only [wI_id]
  refine ⟨by omega, by omega, by omega, by omega, by omega, by omega, by omega, by omega, by omega, by omega, Eqv (some (.inl a)), h, fun v U hv => ?_⟩
  obtain ⟨hv, hI⟩ := hv
  subst hv
  exact lC_feed hc hI hg
set_option maxRecDepth 20000 in
set_option maxHeartbeats 4000000 in
theorem lA_feed (hc : cLx p s m meth c b B0 L xs D cy) {i : Int} {S : aS} (h0 : 0 ≤ i) (h6 : i + 6 ≤ L) (hI : Inv S) (hg : ∀ U, Inv U → kL p l e s m below meth c b B0 D cy Z 1074 (ll i) [] U) : kL p l e s m below meth c b B0 D cy Z 160 (ll i) [] S := by
  have hL : L ≤ 3072 := hc.2.2.2.2.2.2.2.2.2.2.2
  refine wpL_ok hc (fun pc => pc == 189) 27 160 _ [] S ?_
  unfold ll
  simp only [wpL_s, wpC_f, wpC_t, l_iaload, l_alen, l_call, l_aload_n, l_iload_n, l_iconst, l_bipush, l_iadd, l_isub, l_iand, l_if_icmp, l_goto, l_iinc, l_tsw, l_cl, l_c0, l_c1, e_wLd, e_wLd0, e_wLd1, e_wLd2, e_get1, e_get2, e_wJ, e_wJo, f40, f41, f42, f43, Nat.reduceAdd, Nat.reduceBEq, Nat.reduceMul, eq_self, true_or, or_true, true_and, e_wI2, e_wIc_eq, e_wIc_gt, e_pop0, e_pop1, e_tl0, e_tl1, ic_1, ic_2, ic_3, ic_4, ic_5, bpL_6, bpL_31, tbC_13, dL_law_160, dL_law_161, dL_law_162, dL_law_163, dL_law_164, dL_law_165, dL_law_166, dL_law_167, dL_law_168, dL_law_169, dL_law_170, dL_law_171, dL_law_172, dL_law_173, dL_law_174, dL_law_175, dL_law_176, dL_law_177, dL_law_178, dL_law_179, dL_law_180, dL_law_181, dL_law_182, dL_law_183, dL_law_184, dL_law_185, dL_law_186]
  simp (disch := omega) only [wI_id]
  refine ⟨by omega, by omega, by omega, by omega, by omega, by omega, by omega, by omega, by omega, by omega, ityp (fun r T => spX12_feed [.inr (.inr 245), .inl (xs (i + 1).toNat).toInt, .inl (xs (i + 2).toNat).toInt, .inl (xs (i + 3).toNat).toInt, .inl (xs (i + 4).toNat).toInt, .inl (xs (i + 5).toNat).toInt] T (Eqv r)), st_feed (eq_feed hI (inI_toInt _) (inI_toInt _) (inI_toInt _) (inI_toInt _) (inI_toInt _)), fun v T hv => ?_⟩
  obtain ⟨⟨a, rfl⟩, h2⟩ := hv
  exact lB_feed hc h0 h6 h2 hg
theorem st_book {S : aS} {x0 x1 : Int} {Q : Option aV → aS → Prop} (h : spX11_book [.inr (.inr 0), .inl x0, .inl x1] S Q) : spX11_book [.inr (.inr 0), .inl x0, .inl x1] S (ityp Q) := by
  unfold spX11_book at h ⊢
  simp only [ityp_i]
  exact h
theorem jL_251 : jt 251 823 = some 1074 := rfl
theorem lC_book (hc : cLx p s m meth c b B0 L xs D cy) {i a : Int} {U : aS} (hI : Inv U) (hg : ∀ U, Inv U → kL p l e s m below meth c b B0 D cy Z 1074 (ll i) [] U) : kL p l e s m below meth c b B0 D cy Z 251 (ll i) [.inl a, .inl a] U := by
  refine wpL_go hc (fun pc => true) 0 dL_law_251 ?_
  simp only [wpL_s, l_if_icmp, e_wIc_eq, jL_251]
  exact ⟨fun _ => hg U hI, fun z => absurd trivial z⟩
set_option maxRecDepth 20000 in
set_option maxHeartbeats 4000000 in
theorem lB_book (hc : cLx p s m meth c b B0 L xs D cy) {i a : Int} {T : aS} (h0 : 0 ≤ i) (h6 : i + 6 ≤ L) (h : spX12_book [.inr (.inr 245), .inl (xs (i + 1).toNat).toInt, .inl (xs (i + 2).toNat).toInt] T (Eqv (some (.inl a)))) (hg : ∀ U, Inv U → kL p l e s m below meth c b B0 D cy Z 1074 (ll i) [] U) : kL p l e s m below meth c b B0 D cy Z 237 (ll i) [.inl a] T := by
  have hL : L ≤ 3072 := hc.2.2.2.2.2.2.2.2.2.2.2
  refine wpL_ok hc (fun pc => pc == 251) 12 237 _ [.inl a] T ?_
  unfold ll
  simp only [wpL_s, wpC_f, wpC_t, l_iaload, l_alen, l_call, l_aload_n, l_iload_n, l_iconst, l_bipush, l_iadd, l_isub, l_iand, l_if_icmp, l_goto, l_iinc, l_tsw, l_cl, l_c0, l_c1, e_wLd, e_wLd0, e_wLd1, e_wLd2, e_get1, e_get2, e_wJ, e_wJo, f40, f41, f42, f43, Nat.reduceAdd, Nat.reduceBEq, Nat.reduceMul, eq_self, true_or, or_true, true_and, e_wI2, e_wIc_eq, e_wIc_gt, e_pop0, e_pop1, e_tl0, e_tl1, ic_1, ic_2, ic_3, ic_4, ic_5, bpL_6, bpL_31, tbC_22, dL_law_237, dL_law_238, dL_law_239, dL_law_240, dL_law_241, dL_law_242, dL_law_243, dL_law_244, dL_law_245, dL_law_246, dL_law_247, dL_law_248]
  simp (disch := omega) only [wI_id]
  refine ⟨by omega, by omega, by omega, by omega, Eqv (some (.inl a)), h, fun v U hv => ?_⟩
  obtain ⟨hv, hI⟩ := hv
  subst hv
  exact lC_book hc hI hg
set_option maxRecDepth 20000 in
set_option maxHeartbeats 4000000 in
theorem lA_book (hc : cLx p s m meth c b B0 L xs D cy) {i : Int} {S : aS} (h0 : 0 ≤ i) (h6 : i + 6 ≤ L) (hI : Inv S) (hg : ∀ U, Inv U → kL p l e s m below meth c b B0 D cy Z 1074 (ll i) [] U) : kL p l e s m below meth c b B0 D cy Z 223 (ll i) [] S := by
  have hL : L ≤ 3072 := hc.2.2.2.2.2.2.2.2.2.2.2
  refine wpL_ok hc (fun pc => pc == 237) 12 223 _ [] S ?_
  unfold ll
  simp only [wpL_s, wpC_f, wpC_t, l_iaload, l_alen, l_call, l_aload_n, l_iload_n, l_iconst, l_bipush, l_iadd, l_isub, l_iand, l_if_icmp, l_goto, l_iinc, l_tsw, l_cl, l_c0, l_c1, e_wLd, e_wLd0, e_wLd1, e_wLd2, e_get1, e_get2, e_wJ, e_wJo, f40, f41, f42, f43, Nat.reduceAdd, Nat.reduceBEq, Nat.reduceMul, eq_self, true_or, or_true, true_and, e_wI2, e_wIc_eq, e_wIc_gt, e_pop0, e_pop1, e_tl0, e_tl1, ic_1, ic_2, ic_3, ic_4, ic_5, bpL_6, bpL_31, tbC_18, dL_law_223, dL_law_224, dL_law_225, dL_law_226, dL_law_227, dL_law_228, dL_law_229, dL_law_230, dL_law_231, dL_law_232, dL_law_233, dL_law_234]
  simp (disch := omega) only [wI_id]
  refine ⟨by omega, by omega, by omega, by omega, ityp (fun r T => spX12_book [.inr (.inr 245), .inl (xs (i + 1).toNat).toInt, .inl (xs (i + 2).toNat).toInt] T (Eqv r)), st_book (eq_book hI), fun v T hv => ?_⟩
  obtain ⟨⟨a, rfl⟩, h2⟩ := hv
  exact lB_book hc h0 h6 h2 hg
theorem st_before {S : aS} {x0 x1 : Int} {Q : Option aV → aS → Prop} (h : spX11_before [.inr (.inr 0), .inl x0, .inl x1] S Q) : spX11_before [.inr (.inr 0), .inl x0, .inl x1] S (ityp Q) := by
  unfold spX11_before at h ⊢
  simp only [ityp_i]
  exact h
theorem jL_284 : jt 284 790 = some 1074 := rfl
theorem lC_before (hc : cLx p s m meth c b B0 L xs D cy) {i a : Int} {U : aS} (hI : Inv U) (hg : ∀ U, Inv U → kL p l e s m below meth c b B0 D cy Z 1074 (ll i) [] U) : kL p l e s m below meth c b B0 D cy Z 284 (ll i) [.inl a, .inl a] U := by
  refine wpL_go hc (fun pc => true) 0 dL_law_284 ?_
  simp only [wpL_s, l_if_icmp, e_wIc_eq, jL_284]
  exact ⟨fun _ => hg U hI, fun z => absurd trivial z⟩
set_option maxRecDepth 20000 in
set_option maxHeartbeats 4000000 in
theorem lB_before (hc : cLx p s m meth c b B0 L xs D cy) {i a : Int} {T : aS} (h0 : 0 ≤ i) (h6 : i + 6 ≤ L) (h : spX12_before [.inr (.inr 245), .inl (xs (i + 1).toNat).toInt, .inl (xs (i + 2).toNat).toInt] T (Eqv (some (.inl a)))) (hg : ∀ U, Inv U → kL p l e s m below meth c b B0 D cy Z 1074 (ll i) [] U) : kL p l e s m below meth c b B0 D cy Z 270 (ll i) [.inl a] T := by
  have hL : L ≤ 3072 := hc.2.2.2.2.2.2.2.2.2.2.2
  refine wpL_ok hc (fun pc => pc == 284) 12 270 _ [.inl a] T ?_
  unfold ll
  simp only [wpL_s, wpC_f, wpC_t, l_iaload, l_alen, l_call, l_aload_n, l_iload_n, l_iconst, l_bipush, l_iadd, l_isub, l_iand, l_if_icmp, l_goto, l_iinc, l_tsw, l_cl, l_c0, l_c1, e_wLd, e_wLd0, e_wLd1, e_wLd2, e_get1, e_get2, e_wJ, e_wJo, f40, f41, f42, f43, Nat.reduceAdd, Nat.reduceBEq, Nat.reduceMul, eq_self, true_or, or_true, true_and, e_wI2, e_wIc_eq, e_wIc_gt, e_pop0, e_pop1, e_tl0, e_tl1, ic_1, ic_2, ic_3, ic_4, ic_5, bpL_6, bpL_31, tbC_27, dL_law_270, dL_law_271, dL_law_272, dL_law_273, dL_law_274, dL_law_275, dL_law_276, dL_law_277, dL_law_278, dL_law_279, dL_law_280, dL_law_281]
  simp (disch := omega) only [wI_id]
  refine ⟨by omega, by omega, by omega, by omega, Eqv (some (.inl a)), h, fun v U hv => ?_⟩
  obtain ⟨hv, hI⟩ := hv
  subst hv
  exact lC_before hc hI hg
set_option maxRecDepth 20000 in
set_option maxHeartbeats 4000000 in
theorem lA_before (hc : cLx p s m meth c b B0 L xs D cy) {i : Int} {S : aS} (h0 : 0 ≤ i) (h6 : i + 6 ≤ L) (hI : Inv S) (hg : ∀ U, Inv U → kL p l e s m below meth c b B0 D cy Z 1074 (ll i) [] U) : kL p l e s m below meth c b B0 D cy Z 256 (ll i) [] S := by
  have hL : L ≤ 3072 := hc.2.2.2.2.2.2.2.2.2.2.2
  refine wpL_ok hc (fun pc => pc == 270) 12 256 _ [] S ?_
  unfold ll
  simp only [wpL_s, wpC_f, wpC_t, l_iaload, l_alen, l_call, l_aload_n, l_iload_n, l_iconst, l_bipush, l_iadd, l_isub, l_iand, l_if_icmp, l_goto, l_iinc, l_tsw, l_cl, l_c0, l_c1, e_wLd, e_wLd0, e_wLd1, e_wLd2, e_get1, e_get2, e_wJ, e_wJo, f40, f41, f42, f43, Nat.reduceAdd, Nat.reduceBEq, Nat.reduceMul, eq_self, true_or, or_true, true_and, e_wI2, e_wIc_eq, e_wIc_gt, e_pop0, e_pop1, e_tl0, e_tl1, ic_1, ic_2, ic_3, ic_4, ic_5, bpL_6, bpL_31, tbC_23, dL_law_256, dL_law_257, dL_law_258, dL_law_259, dL_law_260, dL_law_261, dL_law_262, dL_law_263, dL_law_264, dL_law_265, dL_law_266, dL_law_267]
  simp (disch := omega) only [wI_id]
  refine ⟨by omega, by omega, by omega, by omega, ityp (fun r T => spX12_before [.inr (.inr 245), .inl (xs (i + 1).toNat).toInt, .inl (xs (i + 2).toNat).toInt] T (Eqv r)), st_before (eq_before hI), fun v T hv => ?_⟩
  obtain ⟨⟨a, rfl⟩, h2⟩ := hv
  exact lB_before hc h0 h6 h2 hg
theorem st_span {S : aS} {x0 x1 : Int} {Q : Option aV → aS → Prop} (h : spX11_span [.inr (.inr 0), .inl x0, .inl x1] S Q) : spX11_span [.inr (.inr 0), .inl x0, .inl x1] S (ityp Q) := by
  unfold spX11_span at h ⊢
  simp only [ityp_i]
  exact h
theorem jL_317 : jt 317 757 = some 1074 := rfl
theorem lC_span (hc : cLx p s m meth c b B0 L xs D cy) {i a : Int} {U : aS} (hI : Inv U) (hg : ∀ U, Inv U → kL p l e s m below meth c b B0 D cy Z 1074 (ll i) [] U) : kL p l e s m below meth c b B0 D cy Z 317 (ll i) [.inl a, .inl a] U := by
  refine wpL_go hc (fun pc => true) 0 dL_law_317 ?_
  simp only [wpL_s, l_if_icmp, e_wIc_eq, jL_317]
  exact ⟨fun _ => hg U hI, fun z => absurd trivial z⟩
set_option maxRecDepth 20000 in
set_option maxHeartbeats 4000000 in
theorem lB_span (hc : cLx p s m meth c b B0 L xs D cy) {i a : Int} {T : aS} (h0 : 0 ≤ i) (h6 : i + 6 ≤ L) (h : spX12_span [.inr (.inr 245), .inl (xs (i + 1).toNat).toInt, .inl (xs (i + 2).toNat).toInt] T (Eqv (some (.inl a)))) (hg : ∀ U, Inv U → kL p l e s m below meth c b B0 D cy Z 1074 (ll i) [] U) : kL p l e s m below meth c b B0 D cy Z 303 (ll i) [.inl a] T := by
  have hL : L ≤ 3072 := hc.2.2.2.2.2.2.2.2.2.2.2
  refine wpL_ok hc (fun pc => pc == 317) 12 303 _ [.inl a] T ?_
  unfold ll
  simp only [wpL_s, wpC_f, wpC_t, l_iaload, l_alen, l_call, l_aload_n, l_iload_n, l_iconst, l_bipush, l_iadd, l_isub, l_iand, l_if_icmp, l_goto, l_iinc, l_tsw, l_cl, l_c0, l_c1, e_wLd, e_wLd0, e_wLd1, e_wLd2, e_get1, e_get2, e_wJ, e_wJo, f40, f41, f42, f43, Nat.reduceAdd, Nat.reduceBEq, Nat.reduceMul, eq_self, true_or, or_true, true_and, e_wI2, e_wIc_eq, e_wIc_gt, e_pop0, e_pop1, e_tl0, e_tl1, ic_1, ic_2, ic_3, ic_4, ic_5, bpL_6, bpL_31, tbC_31, dL_law_303, dL_law_304, dL_law_305, dL_law_306, dL_law_307, dL_law_308, dL_law_309, dL_law_310, dL_law_311, dL_law_312, dL_law_313, dL_law_314]
  simp (disch := omega) only [wI_id]
  refine ⟨by omega, by omega, by omega, by omega, Eqv (some (.inl a)), h, fun v U hv => ?_⟩
  obtain ⟨hv, hI⟩ := hv
  subst hv
  exact lC_span hc hI hg
set_option maxRecDepth 20000 in
set_option maxHeartbeats 4000000 in
theorem lA_span (hc : cLx p s m meth c b B0 L xs D cy) {i : Int} {S : aS} (h0 : 0 ≤ i) (h6 : i + 6 ≤ L) (hI : Inv S) (hg : ∀ U, Inv U → kL p l e s m below meth c b B0 D cy Z 1074 (ll i) [] U) : kL p l e s m below meth c b B0 D cy Z 289 (ll i) [] S := by
  have hL : L ≤ 3072 := hc.2.2.2.2.2.2.2.2.2.2.2
  refine wpL_ok hc (fun pc => pc == 303) 12 289 _ [] S ?_
  unfold ll
  simp only [wpL_s, wpC_f, wpC_t, l_iaload, l_alen, l_call, l_aload_n, l_iload_n, l_iconst, l_bipush, l_iadd, l_isub, l_iand, l_if_icmp, l_goto, l_iinc, l_tsw, l_cl, l_c0, l_c1, e_wLd, e_wLd0, e_wLd1, e_wLd2, e_get1, e_get2, e_wJ, e_wJo, f40, f41, f42, f43, Nat.reduceAdd, Nat.reduceBEq, Nat.reduceMul, eq_self, true_or, or_true, true_and, e_wI2, e_wIc_eq, e_wIc_gt, e_pop0, e_pop1, e_tl0, e_tl1, ic_1, ic_2, ic_3, ic_4, ic_5, bpL_6, bpL_31, tbC_28, dL_law_289, dL_law_290, dL_law_291, dL_law_292, dL_law_293, dL_law_294, dL_law_295, dL_law_296, dL_law_297, dL_law_298, dL_law_299, dL_law_300]
  simp (disch := omega) only [wI_id]
  refine ⟨by omega, by omega, by omega, by omega, ityp (fun r T => spX12_span [.inr (.inr 245), .inl (xs (i + 1).toNat).toInt, .inl (xs (i + 2).toNat).toInt] T (Eqv r)), st_span (eq_span hI), fun v T hv => ?_⟩
  obtain ⟨⟨a, rfl⟩, h2⟩ := hv
  exact lB_span hc h0 h6 h2 hg
theorem st_slip {S : aS} {x0 x1 : Int} {Q : Option aV → aS → Prop} (h : spX11_slip [.inr (.inr 0), .inl x0, .inl x1] S Q) : spX11_slip [.inr (.inr 0), .inl x0, .inl x1] S (ityp Q) := by
  unfold spX11_slip at h ⊢
  simp only [ityp_i]
  exact h
theorem jL_350 : jt 350 724 = some 1074 := rfl
theorem lC_slip (hc : cLx p s m meth c b B0 L xs D cy) {i a : Int} {U : aS} (hI : Inv U) (hg : ∀ U, Inv U → kL p l e s m below meth c b B0 D cy Z 1074 (ll i) [] U) : kL p l e s m below meth c b B0 D cy Z 350 (ll i) [.inl a, .inl a] U := by
  refine wpL_go hc (fun pc => true) 0 dL_law_350 ?_
  simp only [wpL_s, l_if_icmp, e_wIc_eq, jL_350]
  exact ⟨fun _ => hg U hI, fun z => absurd trivial z⟩
set_option maxRecDepth 20000 in
set_option maxHeartbeats 4000000 in
theorem lB_slip (hc : cLx p s m meth c b B0 L xs D cy) {i a : Int} {T : aS} (h0 : 0 ≤ i) (h6 : i + 6 ≤ L) (h : spX12_slip [.inr (.inr 245), .inl (xs (i + 1).toNat).toInt, .inl (xs (i + 2).toNat).toInt] T (Eqv (some (.inl a)))) (hg : ∀ U, Inv U → kL p l e s m below meth c b B0 D cy Z 1074 (ll i) [] U) : kL p l e s m below meth c b B0 D cy Z 336 (ll i) [.inl a] T := by
  have hL : L ≤ 3072 := hc.2.2.2.2.2.2.2.2.2.2.2
  refine wpL_ok hc (fun pc => pc == 350) 12 336 _ [.inl a] T ?_
  unfold ll
  simp only [wpL_s, wpC_f, wpC_t, l_iaload, l_alen, l_call, l_aload_n, l_iload_n, l_iconst, l_bipush, l_iadd, l_isub, l_iand, l_if_icmp, l_goto, l_iinc, l_tsw, l_cl, l_c0, l_c1, e_wLd, e_wLd0, e_wLd1, e_wLd2, e_get1, e_get2, e_wJ, e_wJo, f40, f41, f42, f43, Nat.reduceAdd, Nat.reduceBEq, Nat.reduceMul, eq_self, true_or, or_true, true_and, e_wI2, e_wIc_eq, e_wIc_gt, e_pop0, e_pop1, e_tl0, e_tl1, ic_1, ic_2, ic_3, ic_4, ic_5, bpL_6, bpL_31, tbC_35, dL_law_336, dL_law_337, dL_law_338, dL_law_339, dL_law_340, dL_law_341, dL_law_342, dL_law_343, dL_law_344, dL_law_345, dL_law_346, dL_law_347]
  simp (disch := omega) only [wI_id]
  refine ⟨by omega, by omega, by omega, by omega, Eqv (some (.inl a)), h, fun v U hv => ?_⟩
  obtain ⟨hv, hI⟩ := hv
  subst hv
  exact lC_slip hc hI hg
set_option maxRecDepth 20000 in
set_option maxHeartbeats 4000000 in
theorem lA_slip (hc : cLx p s m meth c b B0 L xs D cy) {i : Int} {S : aS} (h0 : 0 ≤ i) (h6 : i + 6 ≤ L) (hI : Inv S) (hg : ∀ U, Inv U → kL p l e s m below meth c b B0 D cy Z 1074 (ll i) [] U) : kL p l e s m below meth c b B0 D cy Z 322 (ll i) [] S := by
  have hL : L ≤ 3072 := hc.2.2.2.2.2.2.2.2.2.2.2
  refine wpL_ok hc (fun pc => pc == 336) 12 322 _ [] S ?_
  unfold ll
  simp only [wpL_s, wpC_f, wpC_t, l_iaload, l_alen, l_call, l_aload_n, l_iload_n, l_iconst, l_bipush, l_iadd, l_isub, l_iand, l_if_icmp, l_goto, l_iinc, l_tsw, l_cl, l_c0, l_c1, e_wLd, e_wLd0, e_wLd1, e_wLd2, e_get1, e_get2, e_wJ, e_wJo, f40, f41, f42, f43, Nat.reduceAdd, Nat.reduceBEq, Nat.reduceMul, eq_self, true_or, or_true, true_and, e_wI2, e_wIc_eq, e_wIc_gt, e_pop0, e_pop1, e_tl0, e_tl1, ic_1, ic_2, ic_3, ic_4, ic_5, bpL_6, bpL_31, tbC_32, dL_law_322, dL_law_323, dL_law_324, dL_law_325, dL_law_326, dL_law_327, dL_law_328, dL_law_329, dL_law_330, dL_law_331, dL_law_332, dL_law_333]
  simp (disch := omega) only [wI_id]
  refine ⟨by omega, by omega, by omega, by omega, ityp (fun r T => spX12_slip [.inr (.inr 245), .inl (xs (i + 1).toNat).toInt, .inl (xs (i + 2).toNat).toInt] T (Eqv r)), st_slip (eq_slip hI), fun v T hv => ?_⟩
  obtain ⟨⟨a, rfl⟩, h2⟩ := hv
  exact lB_slip hc h0 h6 h2 hg
theorem st_entry {S : aS} {x0 x1 x2 : Int} {Q : Option aV → aS → Prop} (h : spX11_entry [.inr (.inr 0), .inl x0, .inl x1, .inl x2] S Q) : spX11_entry [.inr (.inr 0), .inl x0, .inl x1, .inl x2] S (ityp Q) := by
  unfold spX11_entry at h ⊢
  simp only [ityp_i]
  exact h
theorem jL_393 : jt 393 681 = some 1074 := rfl
theorem lC_entry (hc : cLx p s m meth c b B0 L xs D cy) {i a : Int} {U : aS} (hI : Inv U) (hg : ∀ U, Inv U → kL p l e s m below meth c b B0 D cy Z 1074 (ll i) [] U) : kL p l e s m below meth c b B0 D cy Z 393 (ll i) [.inl a, .inl a] U := by
  refine wpL_go hc (fun pc => true) 0 dL_law_393 ?_
  simp only [wpL_s, l_if_icmp, e_wIc_eq, jL_393]
  exact ⟨fun _ => hg U hI, fun z => absurd trivial z⟩
set_option maxRecDepth 20000 in
set_option maxHeartbeats 4000000 in
theorem lB_entry (hc : cLx p s m meth c b B0 L xs D cy) {i a : Int} {T : aS} (h0 : 0 ≤ i) (h6 : i + 6 ≤ L) (h : spX12_entry [.inr (.inr 245), .inl (xs (i + 1).toNat).toInt, .inl (xs (i + 2).toNat).toInt, .inl (xs (i + 3).toNat).toInt] T (Eqv (some (.inl a)))) (hg : ∀ U, Inv U → kL p l e s m below meth c b B0 D cy Z 1074 (ll i) [] U) : kL p l e s m below meth c b B0 D cy Z 374 (ll i) [.inl a] T := by
  have hL : L ≤ 3072 := hc.2.2.2.2.2.2.2.2.2.2.2
  refine wpL_ok hc (fun pc => pc == 393) 17 374 _ [.inl a] T ?_
  unfold ll
  simp only [wpL_s, wpC_f, wpC_t, l_iaload, l_alen, l_call, l_aload_n, l_iload_n, l_iconst, l_bipush, l_iadd, l_isub, l_iand, l_if_icmp, l_goto, l_iinc, l_tsw, l_cl, l_c0, l_c1, e_wLd, e_wLd0, e_wLd1, e_wLd2, e_get1, e_get2, e_wJ, e_wJo, f40, f41, f42, f43, Nat.reduceAdd, Nat.reduceBEq, Nat.reduceMul, eq_self, true_or, or_true, true_and, e_wI2, e_wIc_eq, e_wIc_gt, e_pop0, e_pop1, e_tl0, e_tl1, ic_1, ic_2, ic_3, ic_4, ic_5, bpL_6, bpL_31, tbC_40, dL_law_374, dL_law_375, dL_law_376, dL_law_377, dL_law_378, dL_law_379, dL_law_380, dL_law_381, dL_law_382, dL_law_383, dL_law_384, dL_law_385, dL_law_386, dL_law_387, dL_law_388, dL_law_389, dL_law_390]
  simp (disch := omega) only [wI_id]
  refine ⟨by omega, by omega, by omega, by omega, by omega, by omega, Eqv (some (.inl a)), h, fun v U hv => ?_⟩
  obtain ⟨hv, hI⟩ := hv
  subst hv
  exact lC_entry hc hI hg
set_option maxRecDepth 20000 in
set_option maxHeartbeats 4000000 in
theorem lA_entry (hc : cLx p s m meth c b B0 L xs D cy) {i : Int} {S : aS} (h0 : 0 ≤ i) (h6 : i + 6 ≤ L) (hI : Inv S) (hg : ∀ U, Inv U → kL p l e s m below meth c b B0 D cy Z 1074 (ll i) [] U) : kL p l e s m below meth c b B0 D cy Z 355 (ll i) [] S := by
  have hL : L ≤ 3072 := hc.2.2.2.2.2.2.2.2.2.2.2
  refine wpL_ok hc (fun pc => pc == 374) 17 355 _ [] S ?_
  unfold ll
  simp only [wpL_s, wpC_f, wpC_t, l_iaload, l_alen, l_call, l_aload_n, l_iload_n, l_iconst, l_bipush, l_iadd, l_isub, l_iand, l_if_icmp, l_goto, l_iinc, l_tsw, l_cl, l_c0, l_c1, e_wLd, e_wLd0, e_wLd1, e_wLd2, e_get1, e_get2, e_wJ, e_wJo, f40, f41, f42, f43, Nat.reduceAdd, Nat.reduceBEq, Nat.reduceMul, eq_self, true_or, or_true, true_and, e_wI2, e_wIc_eq, e_wIc_gt, e_pop0, e_pop1, e_tl0, e_tl1, ic_1, ic_2, ic_3, ic_4, ic_5, bpL_6, bpL_31, tbC_36, dL_law_355, dL_law_356, dL_law_357, dL_law_358, dL_law_359, dL_law_360, dL_law_361, dL_law_362, dL_law_363, dL_law_364, dL_law_365, dL_law_366, dL_law_367, dL_law_368, dL_law_369, dL_law_370, dL_law_371]
  simp (disch := omega) only [wI_id]
  refine ⟨by omega, by omega, by omega, by omega, by omega, by omega, ityp (fun r T => spX12_entry [.inr (.inr 245), .inl (xs (i + 1).toNat).toInt, .inl (xs (i + 2).toNat).toInt, .inl (xs (i + 3).toNat).toInt] T (Eqv r)), st_entry (eq_entry hI), fun v T hv => ?_⟩
  obtain ⟨⟨a, rfl⟩, h2⟩ := hv
  exact lB_entry hc h0 h6 h2 hg
theorem st_form {S : aS} {x0 x1 x2 x3 : Int} {Q : Option aV → aS → Prop} (h : spX11_form [.inr (.inr 0), .inl x0, .inl x1, .inl x2, .inl x3] S Q) : spX11_form [.inr (.inr 0), .inl x0, .inl x1, .inl x2, .inl x3] S (ityp Q) := by
  unfold spX11_form at h ⊢
  simp only [ityp_i]
  exact h
theorem jL_446 : jt 446 628 = some 1074 := rfl
theorem lC_form (hc : cLx p s m meth c b B0 L xs D cy) {i a : Int} {U : aS} (hI : Inv U) (hg : ∀ U, Inv U → kL p l e s m below meth c b B0 D cy Z 1074 (ll i) [] U) : kL p l e s m below meth c b B0 D cy Z 446 (ll i) [.inl a, .inl a] U := by
  refine wpL_go hc (fun pc => true) 0 dL_law_446 ?_
  simp only [wpL_s, l_if_icmp, e_wIc_eq, jL_446]
  exact ⟨fun _ => hg U hI, fun z => absurd trivial z⟩
set_option maxRecDepth 20000 in
set_option maxHeartbeats 4000000 in
theorem lB_form (hc : cLx p s m meth c b B0 L xs D cy) {i a : Int} {T : aS} (h0 : 0 ≤ i) (h6 : i + 6 ≤ L) (h : spX12_form [.inr (.inr 245), .inl (xs (i + 1).toNat).toInt, .inl (xs (i + 2).toNat).toInt, .inl (xs (i + 3).toNat).toInt, .inl (xs (i + 4).toNat).toInt] T (Eqv (some (.inl a)))) (hg : ∀ U, Inv U → kL p l e s m below meth c b B0 D cy Z 1074 (ll i) [] U) : kL p l e s m below meth c b B0 D cy Z 422 (ll i) [.inl a] T := by
  have hL : L ≤ 3072 := hc.2.2.2.2.2.2.2.2.2.2.2
  refine wpL_ok hc (fun pc => pc == 446) 22 422 _ [.inl a] T ?_
  unfold ll
  simp only [wpL_s, wpC_f, wpC_t, l_iaload, l_alen, l_call, l_aload_n, l_iload_n, l_iconst, l_bipush, l_iadd, l_isub, l_iand, l_if_icmp, l_goto, l_iinc, l_tsw, l_cl, l_c0, l_c1, e_wLd, e_wLd0, e_wLd1, e_wLd2, e_get1, e_get2, e_wJ, e_wJo, f40, f41, f42, f43, Nat.reduceAdd, Nat.reduceBEq, Nat.reduceMul, eq_self, true_or, or_true, true_and, e_wI2, e_wIc_eq, e_wIc_gt, e_pop0, e_pop1, e_tl0, e_tl1, ic_1, ic_2, ic_3, ic_4, ic_5, bpL_6, bpL_31, tbC_45, dL_law_422, dL_law_423, dL_law_424, dL_law_425, dL_law_426, dL_law_427, dL_law_428, dL_law_429, dL_law_430, dL_law_431, dL_law_432, dL_law_433, dL_law_434, dL_law_435, dL_law_436, dL_law_437, dL_law_438, dL_law_439, dL_law_440, dL_law_441, dL_law_442, dL_law_443]
  simp (disch := omega) only [wI_id]
  refine ⟨by omega, by omega, by omega, by omega, by omega, by omega, by omega, by omega, Eqv (some (.inl a)), h, fun v U hv => ?_⟩
  obtain ⟨hv, hI⟩ := hv
  subst hv
  exact lC_form hc hI hg
set_option maxRecDepth 20000 in
set_option maxHeartbeats 4000000 in
theorem lA_form (hc : cLx p s m meth c b B0 L xs D cy) {i : Int} {S : aS} (h0 : 0 ≤ i) (h6 : i + 6 ≤ L) (hI : Inv S) (hg : ∀ U, Inv U → kL p l e s m below meth c b B0 D cy Z 1074 (ll i) [] U) : kL p l e s m below meth c b B0 D cy Z 398 (ll i) [] S := by
  have hL : L ≤ 3072 := hc.2.2.2.2.2.2.2.2.2.2.2
  refine wpL_ok hc (fun pc => pc == 422) 22 398 _ [] S ?_
  unfold ll
  simp only [wpL_s, wpC_f, wpC_t, l_iaload, l_alen, l_call, l_aload_n, l_iload_n, l_iconst, l_bipush, l_iadd, l_isub, l_iand, l_if_icmp, l_goto, l_iinc, l_tsw, l_cl, l_c0, l_c1, e_wLd, e_wLd0, e_wLd1, e_wLd2, e_get1, e_get2, e_wJ, e_wJo, f40, f41, f42, f43, Nat.reduceAdd, Nat.reduceBEq, Nat.reduceMul, eq_self, true_or, or_true, true_and, e_wI2, e_wIc_eq, e_wIc_gt, e_pop0, e_pop1, e_tl0, e_tl1, ic_1, ic_2, ic_3, ic_4, ic_5, bpL_6, bpL_31, tbC_41, dL_law_398, dL_law_399, dL_law_400, dL_law_401, dL_law_402, dL_law_403, dL_law_404, dL_law_405, dL_law_406, dL_law_407, dL_law_408, dL_law_409, dL_law_410, dL_law_411, dL_law_412, dL_law_413, dL_law_414, dL_law_415, dL_law_416, dL_law_417, dL_law_418, dL_law_419]
  simp (disch := omega) only [wI_id]
  refine ⟨by omega, by omega, by omega, by omega, by omega, by omega, by omega, by omega, ityp (fun r T => spX12_form [.inr (.inr 245), .inl (xs (i + 1).toNat).toInt, .inl (xs (i + 2).toNat).toInt, .inl (xs (i + 3).toNat).toInt, .inl (xs (i + 4).toNat).toInt] T (Eqv r)), st_form (eq_form hI), fun v T hv => ?_⟩
  obtain ⟨⟨a, rfl⟩, h2⟩ := hv
  exact lB_form hc h0 h6 h2 hg
theorem st_rule {S : aS} {x0 x1 : Int} {Q : Option aV → aS → Prop} (h : spX11_rule [.inr (.inr 0), .inl x0, .inl x1] S Q) : spX11_rule [.inr (.inr 0), .inl x0, .inl x1] S (ityp Q) := by
  unfold spX11_rule at h ⊢
  simp only [ityp_i]
  exact h
theorem jL_479 : jt 479 595 = some 1074 := rfl
theorem lC_rule (hc : cLx p s m meth c b B0 L xs D cy) {i a : Int} {U : aS} (hI : Inv U) (hg : ∀ U, Inv U → kL p l e s m below meth c b B0 D cy Z 1074 (ll i) [] U) : kL p l e s m below meth c b B0 D cy Z 479 (ll i) [.inl a, .inl a] U := by
  refine wpL_go hc (fun pc => true) 0 dL_law_479 ?_
  simp only [wpL_s, l_if_icmp, e_wIc_eq, jL_479]
  exact ⟨fun _ => hg U hI, fun z => absurd trivial z⟩
set_option maxRecDepth 20000 in
set_option maxHeartbeats 4000000 in
theorem lB_rule (hc : cLx p s m meth c b B0 L xs D cy) {i a : Int} {T : aS} (h0 : 0 ≤ i) (h6 : i + 6 ≤ L) (h : spX12_rule [.inr (.inr 245), .inl (xs (i + 1).toNat).toInt, .inl (xs (i + 2).toNat).toInt] T (Eqv (some (.inl a)))) (hg : ∀ U, Inv U → kL p l e s m below meth c b B0 D cy Z 1074 (ll i) [] U) : kL p l e s m below meth c b B0 D cy Z 465 (ll i) [.inl a] T := by
  have hL : L ≤ 3072 := hc.2.2.2.2.2.2.2.2.2.2.2
  refine wpL_ok hc (fun pc => pc == 479) 12 465 _ [.inl a] T ?_
  unfold ll
  simp only [wpL_s, wpC_f, wpC_t, l_iaload, l_alen, l_call, l_aload_n, l_iload_n, l_iconst, l_bipush, l_iadd, l_isub, l_iand, l_if_icmp, l_goto, l_iinc, l_tsw, l_cl, l_c0, l_c1, e_wLd, e_wLd0, e_wLd1, e_wLd2, e_get1, e_get2, e_wJ, e_wJo, f40, f41, f42, f43, Nat.reduceAdd, Nat.reduceBEq, Nat.reduceMul, eq_self, true_or, or_true, true_and, e_wI2, e_wIc_eq, e_wIc_gt, e_pop0, e_pop1, e_tl0, e_tl1, ic_1, ic_2, ic_3, ic_4, ic_5, bpL_6, bpL_31, tbC_49, dL_law_465, dL_law_466, dL_law_467, dL_law_468, dL_law_469, dL_law_470, dL_law_471, dL_law_472, dL_law_473, dL_law_474, dL_law_475, dL_law_476]
  simp (disch := omega) only [wI_id]
  refine ⟨by omega, by omega, by omega, by omega, Eqv (some (.inl a)), h, fun v U hv => ?_⟩
  obtain ⟨hv, hI⟩ := hv
  subst hv
  exact lC_rule hc hI hg
set_option maxRecDepth 20000 in
set_option maxHeartbeats 4000000 in
theorem lA_rule (hc : cLx p s m meth c b B0 L xs D cy) {i : Int} {S : aS} (h0 : 0 ≤ i) (h6 : i + 6 ≤ L) (hI : Inv S) (hg : ∀ U, Inv U → kL p l e s m below meth c b B0 D cy Z 1074 (ll i) [] U) : kL p l e s m below meth c b B0 D cy Z 451 (ll i) [] S := by
  have hL : L ≤ 3072 := hc.2.2.2.2.2.2.2.2.2.2.2
  refine wpL_ok hc (fun pc => pc == 465) 12 451 _ [] S ?_
  unfold ll
  simp only [wpL_s, wpC_f, wpC_t, l_iaload, l_alen, l_call, l_aload_n, l_iload_n, l_iconst, l_bipush, l_iadd, l_isub, l_iand, l_if_icmp, l_goto, l_iinc, l_tsw, l_cl, l_c0, l_c1, e_wLd, e_wLd0, e_wLd1, e_wLd2, e_get1, e_get2, e_wJ, e_wJo, f40, f41, f42, f43, Nat.reduceAdd, Nat.reduceBEq, Nat.reduceMul, eq_self, true_or, or_true, true_and, e_wI2, e_wIc_eq, e_wIc_gt, e_pop0, e_pop1, e_tl0, e_tl1, ic_1, ic_2, ic_3, ic_4, ic_5, bpL_6, bpL_31, tbC_46, dL_law_451, dL_law_452, dL_law_453, dL_law_454, dL_law_455, dL_law_456, dL_law_457, dL_law_458, dL_law_459, dL_law_460, dL_law_461, dL_law_462]
  simp (disch := omega) only [wI_id]
  refine ⟨by omega, by omega, by omega, by omega, ityp (fun r T => spX12_rule [.inr (.inr 245), .inl (xs (i + 1).toNat).toInt, .inl (xs (i + 2).toNat).toInt] T (Eqv r)), st_rule (eq_rule hI), fun v T hv => ?_⟩
  obtain ⟨⟨a, rfl⟩, h2⟩ := hv
  exact lB_rule hc h0 h6 h2 hg
theorem st_fits {S : aS} {x0 x1 : Int} {Q : Option aV → aS → Prop} (h : spX11_fits [.inr (.inr 0), .inl x0, .inl x1] S Q) : spX11_fits [.inr (.inr 0), .inl x0, .inl x1] S (ityp Q) := by
  unfold spX11_fits at h ⊢
  simp only [ityp_i]
  exact h
theorem jL_512 : jt 512 562 = some 1074 := rfl
theorem lC_fits (hc : cLx p s m meth c b B0 L xs D cy) {i a : Int} {U : aS} (hI : Inv U) (hg : ∀ U, Inv U → kL p l e s m below meth c b B0 D cy Z 1074 (ll i) [] U) : kL p l e s m below meth c b B0 D cy Z 512 (ll i) [.inl a, .inl a] U := by
  refine wpL_go hc (fun pc => true) 0 dL_law_512 ?_
  simp only [wpL_s, l_if_icmp, e_wIc_eq, jL_512]
  exact ⟨fun _ => hg U hI, fun z => absurd trivial z⟩
set_option maxRecDepth 20000 in
set_option maxHeartbeats 4000000 in
theorem lB_fits (hc : cLx p s m meth c b B0 L xs D cy) {i a : Int} {T : aS} (h0 : 0 ≤ i) (h6 : i + 6 ≤ L) (h : spX12_fits [.inr (.inr 245), .inl (xs (i + 1).toNat).toInt, .inl (xs (i + 2).toNat).toInt] T (Eqv (some (.inl a)))) (hg : ∀ U, Inv U → kL p l e s m below meth c b B0 D cy Z 1074 (ll i) [] U) : kL p l e s m below meth c b B0 D cy Z 498 (ll i) [.inl a] T := by
  have hL : L ≤ 3072 := hc.2.2.2.2.2.2.2.2.2.2.2
  refine wpL_ok hc (fun pc => pc == 512) 12 498 _ [.inl a] T ?_
  unfold ll
  simp only [wpL_s, wpC_f, wpC_t, l_iaload, l_alen, l_call, l_aload_n, l_iload_n, l_iconst, l_bipush, l_iadd, l_isub, l_iand, l_if_icmp, l_goto, l_iinc, l_tsw, l_cl, l_c0, l_c1, e_wLd, e_wLd0, e_wLd1, e_wLd2, e_get1, e_get2, e_wJ, e_wJo, f40, f41, f42, f43, Nat.reduceAdd, Nat.reduceBEq, Nat.reduceMul, eq_self, true_or, or_true, true_and, e_wI2, e_wIc_eq, e_wIc_gt, e_pop0, e_pop1, e_tl0, e_tl1, ic_1, ic_2, ic_3, ic_4, ic_5, bpL_6, bpL_31, tbC_53, dL_law_498, dL_law_499, dL_law_500, dL_law_501, dL_law_502, dL_law_503, dL_law_504, dL_law_505, dL_law_506, dL_law_507, dL_law_508, dL_law_509]
  simp (disch := omega) only [wI_id]
  refine ⟨by omega, by omega, by omega, by omega, Eqv (some (.inl a)), h, fun v U hv => ?_⟩
  obtain ⟨hv, hI⟩ := hv
  subst hv
  exact lC_fits hc hI hg
set_option maxRecDepth 20000 in
set_option maxHeartbeats 4000000 in
theorem lA_fits (hc : cLx p s m meth c b B0 L xs D cy) {i : Int} {S : aS} (h0 : 0 ≤ i) (h6 : i + 6 ≤ L) (hI : Inv S) (hg : ∀ U, Inv U → kL p l e s m below meth c b B0 D cy Z 1074 (ll i) [] U) : kL p l e s m below meth c b B0 D cy Z 484 (ll i) [] S := by
  have hL : L ≤ 3072 := hc.2.2.2.2.2.2.2.2.2.2.2
  refine wpL_ok hc (fun pc => pc == 498) 12 484 _ [] S ?_
  unfold ll
  simp only [wpL_s, wpC_f, wpC_t, l_iaload, l_alen, l_call, l_aload_n, l_iload_n, l_iconst, l_bipush, l_iadd, l_isub, l_iand, l_if_icmp, l_goto, l_iinc, l_tsw, l_cl, l_c0, l_c1, e_wLd, e_wLd0, e_wLd1, e_wLd2, e_get1, e_get2, e_wJ, e_wJo, f40, f41, f42, f43, Nat.reduceAdd, Nat.reduceBEq, Nat.reduceMul, eq_self, true_or, or_true, true_and, e_wI2, e_wIc_eq, e_wIc_gt, e_pop0, e_pop1, e_tl0, e_tl1, ic_1, ic_2, ic_3, ic_4, ic_5, bpL_6, bpL_31, tbC_50, dL_law_484, dL_law_485, dL_law_486, dL_law_487, dL_law_488, dL_law_489, dL_law_490, dL_law_491, dL_law_492, dL_law_493, dL_law_494, dL_law_495]
  simp (disch := omega) only [wI_id]
  refine ⟨by omega, by omega, by omega, by omega, ityp (fun r T => spX12_fits [.inr (.inr 245), .inl (xs (i + 1).toNat).toInt, .inl (xs (i + 2).toNat).toInt] T (Eqv r)), st_fits (eq_fits hI), fun v T hv => ?_⟩
  obtain ⟨⟨a, rfl⟩, h2⟩ := hv
  exact lB_fits hc h0 h6 h2 hg
theorem st_sort {S : aS} {Q : Option aV → aS → Prop} (h : spX11_sort [.inr (.inr 0)] S Q) : spX11_sort [.inr (.inr 0)] S (ityp Q) := by
  unfold spX11_sort at h ⊢
  simp only [ityp_i]
  exact h
theorem jL_525 : jt 525 549 = some 1074 := rfl
theorem lC_sort (hc : cLx p s m meth c b B0 L xs D cy) {i a : Int} {U : aS} (hI : Inv U) (hg : ∀ U, Inv U → kL p l e s m below meth c b B0 D cy Z 1074 (ll i) [] U) : kL p l e s m below meth c b B0 D cy Z 525 (ll i) [.inl a, .inl a] U := by
  refine wpL_go hc (fun pc => true) 0 dL_law_525 ?_
  simp only [wpL_s, l_if_icmp, e_wIc_eq, jL_525]
  exact ⟨fun _ => hg U hI, fun z => absurd trivial z⟩
set_option maxRecDepth 20000 in
set_option maxHeartbeats 4000000 in
theorem lB_sort (hc : cLx p s m meth c b B0 L xs D cy) {i a : Int} {T : aS} (h0 : 0 ≤ i) (h6 : i + 6 ≤ L) (h : spX12_sort [.inr (.inr 245)] T (Eqv (some (.inl a)))) (hg : ∀ U, Inv U → kL p l e s m below meth c b B0 D cy Z 1074 (ll i) [] U) : kL p l e s m below meth c b B0 D cy Z 521 (ll i) [.inl a] T := by
  have hL : L ≤ 3072 := hc.2.2.2.2.2.2.2.2.2.2.2
  refine wpL_ok hc (fun pc => pc == 525) 2 521 _ [.inl a] T ?_
  unfold ll
  simp only [wpL_s, wpC_f, wpC_t, l_iaload, l_alen, l_call, l_aload_n, l_iload_n, l_iconst, l_bipush, l_iadd, l_isub, l_iand, l_if_icmp, l_goto, l_iinc, l_tsw, l_cl, l_c0, l_c1, e_wLd, e_wLd0, e_wLd1, e_wLd2, e_get1, e_get2, e_wJ, e_wJo, f40, f41, f42, f43, Nat.reduceAdd, Nat.reduceBEq, Nat.reduceMul, eq_self, true_or, or_true, true_and, e_wI2, e_wIc_eq, e_wIc_gt, e_pop0, e_pop1, e_tl0, e_tl1, ic_1, ic_2, ic_3, ic_4, ic_5, bpL_6, bpL_31, tbC_58, dL_law_521, dL_law_522]
  refine ⟨Eqv (some (.inl a)), h, fun v U hv => ?_⟩
  obtain ⟨hv, hI⟩ := hv
  subst hv
  exact lC_sort hc hI hg
set_option maxRecDepth 20000 in
set_option maxHeartbeats 4000000 in
theorem lA_sort (hc : cLx p s m meth c b B0 L xs D cy) {i : Int} {S : aS} (h0 : 0 ≤ i) (h6 : i + 6 ≤ L) (hI : Inv S) (hg : ∀ U, Inv U → kL p l e s m below meth c b B0 D cy Z 1074 (ll i) [] U) : kL p l e s m below meth c b B0 D cy Z 517 (ll i) [] S := by
  have hL : L ≤ 3072 := hc.2.2.2.2.2.2.2.2.2.2.2
  refine wpL_ok hc (fun pc => pc == 521) 2 517 _ [] S ?_
  unfold ll
  simp only [wpL_s, wpC_f, wpC_t, l_iaload, l_alen, l_call, l_aload_n, l_iload_n, l_iconst, l_bipush, l_iadd, l_isub, l_iand, l_if_icmp, l_goto, l_iinc, l_tsw, l_cl, l_c0, l_c1, e_wLd, e_wLd0, e_wLd1, e_wLd2, e_get1, e_get2, e_wJ, e_wJo, f40, f41, f42, f43, Nat.reduceAdd, Nat.reduceBEq, Nat.reduceMul, eq_self, true_or, or_true, true_and, e_wI2, e_wIc_eq, e_wIc_gt, e_pop0, e_pop1, e_tl0, e_tl1, ic_1, ic_2, ic_3, ic_4, ic_5, bpL_6, bpL_31, tbC_54, dL_law_517, dL_law_518]
  refine ⟨ityp (fun r T => spX12_sort [.inr (.inr 245)] T (Eqv r)), st_sort (eq_sort hI), fun v T hv => ?_⟩
  obtain ⟨⟨a, rfl⟩, h2⟩ := hv
  exact lB_sort hc h0 h6 h2 hg
theorem st_sense {S : aS} {x0 x1 : Int} {Q : Option aV → aS → Prop} (h : spX11_sense [.inr (.inr 0), .inl x0, .inl x1] S Q) : spX11_sense [.inr (.inr 0), .inl x0, .inl x1] S (ityp Q) := by
  unfold spX11_sense at h ⊢
  simp only [ityp_i]
  exact h
theorem jL_558 : jt 558 516 = some 1074 := rfl
theorem lC_sense (hc : cLx p s m meth c b B0 L xs D cy) {i a : Int} {U : aS} (hI : Inv U) (hg : ∀ U, Inv U → kL p l e s m below meth c b B0 D cy Z 1074 (ll i) [] U) : kL p l e s m below meth c b B0 D cy Z 558 (ll i) [.inl a, .inl a] U := by
  refine wpL_go hc (fun pc => true) 0 dL_law_558 ?_
  simp only [wpL_s, l_if_icmp, e_wIc_eq, jL_558]
  exact ⟨fun _ => hg U hI, fun z => absurd trivial z⟩
set_option maxRecDepth 20000 in
set_option maxHeartbeats 4000000 in
theorem lB_sense (hc : cLx p s m meth c b B0 L xs D cy) {i a : Int} {T : aS} (h0 : 0 ≤ i) (h6 : i + 6 ≤ L) (h : spX12_sense [.inr (.inr 245), .inl (xs (i + 1).toNat).toInt, .inl (xs (i + 2).toNat).toInt] T (Eqv (some (.inl a)))) (hg : ∀ U, Inv U → kL p l e s m below meth c b B0 D cy Z 1074 (ll i) [] U) : kL p l e s m below meth c b B0 D cy Z 544 (ll i) [.inl a] T := by
  have hL : L ≤ 3072 := hc.2.2.2.2.2.2.2.2.2.2.2
  refine wpL_ok hc (fun pc => pc == 558) 12 544 _ [.inl a] T ?_
  unfold ll
  simp only [wpL_s, wpC_f, wpC_t, l_iaload, l_alen, l_call, l_aload_n, l_iload_n, l_iconst, l_bipush, l_iadd, l_isub, l_iand, l_if_icmp, l_goto, l_iinc, l_tsw, l_cl, l_c0, l_c1, e_wLd, e_wLd0, e_wLd1, e_wLd2, e_get1, e_get2, e_wJ, e_wJo, f40, f41, f42, f43, Nat.reduceAdd, Nat.reduceBEq, Nat.reduceMul, eq_self, true_or, or_true, true_and, e_wI2, e_wIc_eq, e_wIc_gt, e_pop0, e_pop1, e_tl0, e_tl1, ic_1, ic_2, ic_3, ic_4, ic_5, bpL_6, bpL_31, tbC_62, dL_law_544, dL_law_545, dL_law_546, dL_law_547, dL_law_548, dL_law_549, dL_law_550, dL_law_551, dL_law_552, dL_law_553, dL_law_554, dL_law_555]
  simp (disch := omega) only [wI_id]
  refine ⟨by omega, by omega, by omega, by omega, Eqv (some (.inl a)), h, fun v U hv => ?_⟩
  obtain ⟨hv, hI⟩ := hv
  subst hv
  exact lC_sense hc hI hg
set_option maxRecDepth 20000 in
set_option maxHeartbeats 4000000 in
theorem lA_sense (hc : cLx p s m meth c b B0 L xs D cy) {i : Int} {S : aS} (h0 : 0 ≤ i) (h6 : i + 6 ≤ L) (hI : Inv S) (hg : ∀ U, Inv U → kL p l e s m below meth c b B0 D cy Z 1074 (ll i) [] U) : kL p l e s m below meth c b B0 D cy Z 530 (ll i) [] S := by
  have hL : L ≤ 3072 := hc.2.2.2.2.2.2.2.2.2.2.2
  refine wpL_ok hc (fun pc => pc == 544) 12 530 _ [] S ?_
  unfold ll
  simp only [wpL_s, wpC_f, wpC_t, l_iaload, l_alen, l_call, l_aload_n, l_iload_n, l_iconst, l_bipush, l_iadd, l_isub, l_iand, l_if_icmp, l_goto, l_iinc, l_tsw, l_cl, l_c0, l_c1, e_wLd, e_wLd0, e_wLd1, e_wLd2, e_get1, e_get2, e_wJ, e_wJo, f40, f41, f42, f43, Nat.reduceAdd, Nat.reduceBEq, Nat.reduceMul, eq_self, true_or, or_true, true_and, e_wI2, e_wIc_eq, e_wIc_gt, e_pop0, e_pop1, e_tl0, e_tl1, ic_1, ic_2, ic_3, ic_4, ic_5, bpL_6, bpL_31, tbC_59, dL_law_530, dL_law_531, dL_law_532, dL_law_533, dL_law_534, dL_law_535, dL_law_536, dL_law_537, dL_law_538, dL_law_539, dL_law_540, dL_law_541]
  simp (disch := omega) only [wI_id]
  refine ⟨by omega, by omega, by omega, by omega, ityp (fun r T => spX12_sense [.inr (.inr 245), .inl (xs (i + 1).toNat).toInt, .inl (xs (i + 2).toNat).toInt] T (Eqv r)), st_sense (eq_sense hI), fun v T hv => ?_⟩
  obtain ⟨⟨a, rfl⟩, h2⟩ := hv
  exact lB_sense hc h0 h6 h2 hg
theorem st_put {S : aS} {x0 x1 x2 : Int} {Q : Option aV → aS → Prop} (h : spX11_put [.inr (.inr 0), .inl x0, .inl x1, .inl x2] S Q) : spX11_put [.inr (.inr 0), .inl x0, .inl x1, .inl x2] S (ityp Q) := by
  unfold spX11_put at h ⊢
  simp only [ityp_i]
  exact h
theorem jL_601 : jt 601 473 = some 1074 := rfl
theorem lC_put (hc : cLx p s m meth c b B0 L xs D cy) {i a : Int} {U : aS} (hI : Inv U) (hg : ∀ U, Inv U → kL p l e s m below meth c b B0 D cy Z 1074 (ll i) [] U) : kL p l e s m below meth c b B0 D cy Z 601 (ll i) [.inl a, .inl a] U := by
  refine wpL_go hc (fun pc => true) 0 dL_law_601 ?_
  simp only [wpL_s, l_if_icmp, e_wIc_eq, jL_601]
  exact ⟨fun _ => hg U hI, fun z => absurd trivial z⟩
set_option maxRecDepth 20000 in
set_option maxHeartbeats 4000000 in
theorem lB_put (hc : cLx p s m meth c b B0 L xs D cy) {i a : Int} {T : aS} (h0 : 0 ≤ i) (h6 : i + 6 ≤ L) (h : spX12_put [.inr (.inr 245), .inl (xs (i + 1).toNat).toInt, .inl (xs (i + 2).toNat).toInt, .inl (xs (i + 3).toNat).toInt] T (Eqv (some (.inl a)))) (hg : ∀ U, Inv U → kL p l e s m below meth c b B0 D cy Z 1074 (ll i) [] U) : kL p l e s m below meth c b B0 D cy Z 582 (ll i) [.inl a] T := by
  have hL : L ≤ 3072 := hc.2.2.2.2.2.2.2.2.2.2.2
  refine wpL_ok hc (fun pc => pc == 601) 17 582 _ [.inl a] T ?_
  unfold ll
  simp only [wpL_s, wpC_f, wpC_t, l_iaload, l_alen, l_call, l_aload_n, l_iload_n, l_iconst, l_bipush, l_iadd, l_isub, l_iand, l_if_icmp, l_goto, l_iinc, l_tsw, l_cl, l_c0, l_c1, e_wLd, e_wLd0, e_wLd1, e_wLd2, e_get1, e_get2, e_wJ, e_wJo, f40, f41, f42, f43, Nat.reduceAdd, Nat.reduceBEq, Nat.reduceMul, eq_self, true_or, or_true, true_and, e_wI2, e_wIc_eq, e_wIc_gt, e_pop0, e_pop1, e_tl0, e_tl1, ic_1, ic_2, ic_3, ic_4, ic_5, bpL_6, bpL_31, tbC_67, dL_law_582, dL_law_583, dL_law_584, dL_law_585, dL_law_586, dL_law_587, dL_law_588, dL_law_589, dL_law_590, dL_law_591, dL_law_592, dL_law_593, dL_law_594, dL_law_595, dL_law_596, dL_law_597, dL_law_598]
  simp (disch := omega) only [wI_id]
  refine ⟨by omega, by omega, by omega, by omega, by omega, by omega, Eqv (some (.inl a)), h, fun v U hv => ?_⟩
  obtain ⟨hv, hI⟩ := hv
  subst hv
  exact lC_put hc hI hg
set_option maxRecDepth 20000 in
set_option maxHeartbeats 4000000 in
theorem lA_put (hc : cLx p s m meth c b B0 L xs D cy) {i : Int} {S : aS} (h0 : 0 ≤ i) (h6 : i + 6 ≤ L) (hI : Inv S) (hg : ∀ U, Inv U → kL p l e s m below meth c b B0 D cy Z 1074 (ll i) [] U) : kL p l e s m below meth c b B0 D cy Z 563 (ll i) [] S := by
  have hL : L ≤ 3072 := hc.2.2.2.2.2.2.2.2.2.2.2
  refine wpL_ok hc (fun pc => pc == 582) 17 563 _ [] S ?_
  unfold ll
  simp only [wpL_s, wpC_f, wpC_t, l_iaload, l_alen, l_call, l_aload_n, l_iload_n, l_iconst, l_bipush, l_iadd, l_isub, l_iand, l_if_icmp, l_goto, l_iinc, l_tsw, l_cl, l_c0, l_c1, e_wLd, e_wLd0, e_wLd1, e_wLd2, e_get1, e_get2, e_wJ, e_wJo, f40, f41, f42, f43, Nat.reduceAdd, Nat.reduceBEq, Nat.reduceMul, eq_self, true_or, or_true, true_and, e_wI2, e_wIc_eq, e_wIc_gt, e_pop0, e_pop1, e_tl0, e_tl1, ic_1, ic_2, ic_3, ic_4, ic_5, bpL_6, bpL_31, tbC_63, dL_law_563, dL_law_564, dL_law_565, dL_law_566, dL_law_567, dL_law_568, dL_law_569, dL_law_570, dL_law_571, dL_law_572, dL_law_573, dL_law_574, dL_law_575, dL_law_576, dL_law_577, dL_law_578, dL_law_579]
  simp (disch := omega) only [wI_id]
  refine ⟨by omega, by omega, by omega, by omega, by omega, by omega, ityp (fun r T => spX12_put [.inr (.inr 245), .inl (xs (i + 1).toNat).toInt, .inl (xs (i + 2).toNat).toInt, .inl (xs (i + 3).toNat).toInt] T (Eqv r)), st_put (eq_put hI), fun v T hv => ?_⟩
  obtain ⟨⟨a, rfl⟩, h2⟩ := hv
  exact lB_put hc h0 h6 h2 hg
theorem st_move {S : aS} {x0 x1 : Int} {Q : Option aV → aS → Prop} (h : spX11_move [.inr (.inr 0), .inl x0, .inl x1] S Q) : spX11_move [.inr (.inr 0), .inl x0, .inl x1] S (ityp Q) := by
  unfold spX11_move at h ⊢
  simp only [ityp_i]
  exact h
theorem jL_634 : jt 634 440 = some 1074 := rfl
theorem lC_move (hc : cLx p s m meth c b B0 L xs D cy) {i a : Int} {U : aS} (hI : Inv U) (hg : ∀ U, Inv U → kL p l e s m below meth c b B0 D cy Z 1074 (ll i) [] U) : kL p l e s m below meth c b B0 D cy Z 634 (ll i) [.inl a, .inl a] U := by
  refine wpL_go hc (fun pc => true) 0 dL_law_634 ?_
  simp only [wpL_s, l_if_icmp, e_wIc_eq, jL_634]
  exact ⟨fun _ => hg U hI, fun z => absurd trivial z⟩
set_option maxRecDepth 20000 in
set_option maxHeartbeats 4000000 in
theorem lB_move (hc : cLx p s m meth c b B0 L xs D cy) {i a : Int} {T : aS} (h0 : 0 ≤ i) (h6 : i + 6 ≤ L) (h : spX12_move [.inr (.inr 245), .inl (xs (i + 1).toNat).toInt, .inl (xs (i + 2).toNat).toInt] T (Eqv (some (.inl a)))) (hg : ∀ U, Inv U → kL p l e s m below meth c b B0 D cy Z 1074 (ll i) [] U) : kL p l e s m below meth c b B0 D cy Z 620 (ll i) [.inl a] T := by
  have hL : L ≤ 3072 := hc.2.2.2.2.2.2.2.2.2.2.2
  refine wpL_ok hc (fun pc => pc == 634) 12 620 _ [.inl a] T ?_
  unfold ll
  simp only [wpL_s, wpC_f, wpC_t, l_iaload, l_alen, l_call, l_aload_n, l_iload_n, l_iconst, l_bipush, l_iadd, l_isub, l_iand, l_if_icmp, l_goto, l_iinc, l_tsw, l_cl, l_c0, l_c1, e_wLd, e_wLd0, e_wLd1, e_wLd2, e_get1, e_get2, e_wJ, e_wJo, f40, f41, f42, f43, Nat.reduceAdd, Nat.reduceBEq, Nat.reduceMul, eq_self, true_or, or_true, true_and, e_wI2, e_wIc_eq, e_wIc_gt, e_pop0, e_pop1, e_tl0, e_tl1, ic_1, ic_2, ic_3, ic_4, ic_5, bpL_6, bpL_31, tbC_71, dL_law_620, dL_law_621, dL_law_622, dL_law_623, dL_law_624, dL_law_625, dL_law_626, dL_law_627, dL_law_628, dL_law_629, dL_law_630, dL_law_631]
  simp (disch := omega) only [wI_id]
  refine ⟨by omega, by omega, by omega, by omega, Eqv (some (.inl a)), h, fun v U hv => ?_⟩
  obtain ⟨hv, hI⟩ := hv
  subst hv
  exact lC_move hc hI hg
set_option maxRecDepth 20000 in
set_option maxHeartbeats 4000000 in
theorem lA_move (hc : cLx p s m meth c b B0 L xs D cy) {i : Int} {S : aS} (h0 : 0 ≤ i) (h6 : i + 6 ≤ L) (hI : Inv S) (hg : ∀ U, Inv U → kL p l e s m below meth c b B0 D cy Z 1074 (ll i) [] U) : kL p l e s m below meth c b B0 D cy Z 606 (ll i) [] S := by
  have hL : L ≤ 3072 := hc.2.2.2.2.2.2.2.2.2.2.2
  refine wpL_ok hc (fun pc => pc == 620) 12 606 _ [] S ?_
  unfold ll
  simp only [wpL_s, wpC_f, wpC_t, l_iaload, l_alen, l_call, l_aload_n, l_iload_n, l_iconst, l_bipush, l_iadd, l_isub, l_iand, l_if_icmp, l_goto, l_iinc, l_tsw, l_cl, l_c0, l_c1, e_wLd, e_wLd0, e_wLd1, e_wLd2, e_get1, e_get2, e_wJ, e_wJo, f40, f41, f42, f43, Nat.reduceAdd, Nat.reduceBEq, Nat.reduceMul, eq_self, true_or, or_true, true_and, e_wI2, e_wIc_eq, e_wIc_gt, e_pop0, e_pop1, e_tl0, e_tl1, ic_1, ic_2, ic_3, ic_4, ic_5, bpL_6, bpL_31, tbC_68, dL_law_606, dL_law_607, dL_law_608, dL_law_609, dL_law_610, dL_law_611, dL_law_612, dL_law_613, dL_law_614, dL_law_615, dL_law_616, dL_law_617]
  simp (disch := omega) only [wI_id]
  refine ⟨by omega, by omega, by omega, by omega, ityp (fun r T => spX12_move [.inr (.inr 245), .inl (xs (i + 1).toNat).toInt, .inl (xs (i + 2).toNat).toInt] T (Eqv r)), st_move (eq_move hI), fun v T hv => ?_⟩
  obtain ⟨⟨a, rfl⟩, h2⟩ := hv
  exact lB_move hc h0 h6 h2 hg
theorem st_join {S : aS} {x0 x1 : Int} {Q : Option aV → aS → Prop} (h : spX11_join [.inr (.inr 0), .inl x0, .inl x1] S Q) : spX11_join [.inr (.inr 0), .inl x0, .inl x1] S (ityp Q) := by
  unfold spX11_join at h ⊢
  simp only [ityp_i]
  exact h
theorem jL_667 : jt 667 407 = some 1074 := rfl
theorem lC_join (hc : cLx p s m meth c b B0 L xs D cy) {i a : Int} {U : aS} (hI : Inv U) (hg : ∀ U, Inv U → kL p l e s m below meth c b B0 D cy Z 1074 (ll i) [] U) : kL p l e s m below meth c b B0 D cy Z 667 (ll i) [.inl a, .inl a] U := by
  refine wpL_go hc (fun pc => true) 0 dL_law_667 ?_
  simp only [wpL_s, l_if_icmp, e_wIc_eq, jL_667]
  exact ⟨fun _ => hg U hI, fun z => absurd trivial z⟩
set_option maxRecDepth 20000 in
set_option maxHeartbeats 4000000 in
theorem lB_join (hc : cLx p s m meth c b B0 L xs D cy) {i a : Int} {T : aS} (h0 : 0 ≤ i) (h6 : i + 6 ≤ L) (h : spX12_join [.inr (.inr 245), .inl (xs (i + 1).toNat).toInt, .inl (xs (i + 2).toNat).toInt] T (Eqv (some (.inl a)))) (hg : ∀ U, Inv U → kL p l e s m below meth c b B0 D cy Z 1074 (ll i) [] U) : kL p l e s m below meth c b B0 D cy Z 653 (ll i) [.inl a] T := by
  have hL : L ≤ 3072 := hc.2.2.2.2.2.2.2.2.2.2.2
  refine wpL_ok hc (fun pc => pc == 667) 12 653 _ [.inl a] T ?_
  unfold ll
  simp only [wpL_s, wpC_f, wpC_t, l_iaload, l_alen, l_call, l_aload_n, l_iload_n, l_iconst, l_bipush, l_iadd, l_isub, l_iand, l_if_icmp, l_goto, l_iinc, l_tsw, l_cl, l_c0, l_c1, e_wLd, e_wLd0, e_wLd1, e_wLd2, e_get1, e_get2, e_wJ, e_wJo, f40, f41, f42, f43, Nat.reduceAdd, Nat.reduceBEq, Nat.reduceMul, eq_self, true_or, or_true, true_and, e_wI2, e_wIc_eq, e_wIc_gt, e_pop0, e_pop1, e_tl0, e_tl1, ic_1, ic_2, ic_3, ic_4, ic_5, bpL_6, bpL_31, tbC_75, dL_law_653, dL_law_654, dL_law_655, dL_law_656, dL_law_657, dL_law_658, dL_law_659, dL_law_660, dL_law_661, dL_law_662, dL_law_663, dL_law_664]
  simp (disch := omega) only [wI_id]
  refine ⟨by omega, by omega, by omega, by omega, Eqv (some (.inl a)), h, fun v U hv => ?_⟩
  obtain ⟨hv, hI⟩ := hv
  subst hv
  exact lC_join hc hI hg
set_option maxRecDepth 20000 in
set_option maxHeartbeats 4000000 in
theorem lA_join (hc : cLx p s m meth c b B0 L xs D cy) {i : Int} {S : aS} (h0 : 0 ≤ i) (h6 : i + 6 ≤ L) (hI : Inv S) (hg : ∀ U, Inv U → kL p l e s m below meth c b B0 D cy Z 1074 (ll i) [] U) : kL p l e s m below meth c b B0 D cy Z 639 (ll i) [] S := by
  have hL : L ≤ 3072 := hc.2.2.2.2.2.2.2.2.2.2.2
  refine wpL_ok hc (fun pc => pc == 653) 12 639 _ [] S ?_
  unfold ll
  simp only [wpL_s, wpC_f, wpC_t, l_iaload, l_alen, l_call, l_aload_n, l_iload_n, l_iconst, l_bipush, l_iadd, l_isub, l_iand, l_if_icmp, l_goto, l_iinc, l_tsw, l_cl, l_c0, l_c1, e_wLd, e_wLd0, e_wLd1, e_wLd2, e_get1, e_get2, e_wJ, e_wJo, f40, f41, f42, f43, Nat.reduceAdd, Nat.reduceBEq, Nat.reduceMul, eq_self, true_or, or_true, true_and, e_wI2, e_wIc_eq, e_wIc_gt, e_pop0, e_pop1, e_tl0, e_tl1, ic_1, ic_2, ic_3, ic_4, ic_5, bpL_6, bpL_31, tbC_72, dL_law_639, dL_law_640, dL_law_641, dL_law_642, dL_law_643, dL_law_644, dL_law_645, dL_law_646, dL_law_647, dL_law_648, dL_law_649, dL_law_650]
  simp (disch := omega) only [wI_id]
  refine ⟨by omega, by omega, by omega, by omega, ityp (fun r T => spX12_join [.inr (.inr 245), .inl (xs (i + 1).toNat).toInt, .inl (xs (i + 2).toNat).toInt] T (Eqv r)), st_join (eq_join hI), fun v T hv => ?_⟩
  obtain ⟨⟨a, rfl⟩, h2⟩ := hv
  exact lB_join hc h0 h6 h2 hg
theorem st_part {S : aS} {x0 : Int} {Q : Option aV → aS → Prop} (h : spX11_part [.inr (.inr 0), .inl x0] S Q) : spX11_part [.inr (.inr 0), .inl x0] S (ityp Q) := by
  unfold spX11_part at h ⊢
  simp only [ityp_i]
  exact h
theorem jL_690 : jt 690 384 = some 1074 := rfl
theorem lC_part (hc : cLx p s m meth c b B0 L xs D cy) {i a : Int} {U : aS} (hI : Inv U) (hg : ∀ U, Inv U → kL p l e s m below meth c b B0 D cy Z 1074 (ll i) [] U) : kL p l e s m below meth c b B0 D cy Z 690 (ll i) [.inl a, .inl a] U := by
  refine wpL_go hc (fun pc => true) 0 dL_law_690 ?_
  simp only [wpL_s, l_if_icmp, e_wIc_eq, jL_690]
  exact ⟨fun _ => hg U hI, fun z => absurd trivial z⟩
set_option maxRecDepth 20000 in
set_option maxHeartbeats 4000000 in
theorem lB_part (hc : cLx p s m meth c b B0 L xs D cy) {i a : Int} {T : aS} (h0 : 0 ≤ i) (h6 : i + 6 ≤ L) (h : spX12_part [.inr (.inr 245), .inl (xs (i + 1).toNat).toInt] T (Eqv (some (.inl a)))) (hg : ∀ U, Inv U → kL p l e s m below meth c b B0 D cy Z 1074 (ll i) [] U) : kL p l e s m below meth c b B0 D cy Z 681 (ll i) [.inl a] T := by
  have hL : L ≤ 3072 := hc.2.2.2.2.2.2.2.2.2.2.2
  refine wpL_ok hc (fun pc => pc == 690) 7 681 _ [.inl a] T ?_
  unfold ll
  simp only [wpL_s, wpC_f, wpC_t, l_iaload, l_alen, l_call, l_aload_n, l_iload_n, l_iconst, l_bipush, l_iadd, l_isub, l_iand, l_if_icmp, l_goto, l_iinc, l_tsw, l_cl, l_c0, l_c1, e_wLd, e_wLd0, e_wLd1, e_wLd2, e_get1, e_get2, e_wJ, e_wJo, f40, f41, f42, f43, Nat.reduceAdd, Nat.reduceBEq, Nat.reduceMul, eq_self, true_or, or_true, true_and, e_wI2, e_wIc_eq, e_wIc_gt, e_pop0, e_pop1, e_tl0, e_tl1, ic_1, ic_2, ic_3, ic_4, ic_5, bpL_6, bpL_31, tbC_80, dL_law_681, dL_law_682, dL_law_683, dL_law_684, dL_law_685, dL_law_686, dL_law_687]
  simp (disch := omega) only [wI_id]
  refine ⟨by omega, by omega, Eqv (some (.inl a)), h, fun v U hv => ?_⟩
  obtain ⟨hv, hI⟩ := hv
  subst hv
  exact lC_part hc hI hg
set_option maxRecDepth 20000 in
set_option maxHeartbeats 4000000 in
theorem lA_part (hc : cLx p s m meth c b B0 L xs D cy) {i : Int} {S : aS} (h0 : 0 ≤ i) (h6 : i + 6 ≤ L) (hI : Inv S) (hg : ∀ U, Inv U → kL p l e s m below meth c b B0 D cy Z 1074 (ll i) [] U) : kL p l e s m below meth c b B0 D cy Z 672 (ll i) [] S := by
  have hL : L ≤ 3072 := hc.2.2.2.2.2.2.2.2.2.2.2
  refine wpL_ok hc (fun pc => pc == 681) 7 672 _ [] S ?_
  unfold ll
  simp only [wpL_s, wpC_f, wpC_t, l_iaload, l_alen, l_call, l_aload_n, l_iload_n, l_iconst, l_bipush, l_iadd, l_isub, l_iand, l_if_icmp, l_goto, l_iinc, l_tsw, l_cl, l_c0, l_c1, e_wLd, e_wLd0, e_wLd1, e_wLd2, e_get1, e_get2, e_wJ, e_wJo, f40, f41, f42, f43, Nat.reduceAdd, Nat.reduceBEq, Nat.reduceMul, eq_self, true_or, or_true, true_and, e_wI2, e_wIc_eq, e_wIc_gt, e_pop0, e_pop1, e_tl0, e_tl1, ic_1, ic_2, ic_3, ic_4, ic_5, bpL_6, bpL_31, tbC_76, dL_law_672, dL_law_673, dL_law_674, dL_law_675, dL_law_676, dL_law_677, dL_law_678]
  simp (disch := omega) only [wI_id]
  refine ⟨by omega, by omega, ityp (fun r T => spX12_part [.inr (.inr 245), .inl (xs (i + 1).toNat).toInt] T (Eqv r)), st_part (eq_part hI), fun v T hv => ?_⟩
  obtain ⟨⟨a, rfl⟩, h2⟩ := hv
  exact lB_part hc h0 h6 h2 hg
theorem st_drop {S : aS} {x0 : Int} {Q : Option aV → aS → Prop} (h : spX11_drop [.inr (.inr 0), .inl x0] S Q) : spX11_drop [.inr (.inr 0), .inl x0] S (ityp Q) := by
  unfold spX11_drop at h ⊢
  simp only [ityp_i]
  exact h
theorem jL_713 : jt 713 361 = some 1074 := rfl
theorem lC_drop (hc : cLx p s m meth c b B0 L xs D cy) {i a : Int} {U : aS} (hI : Inv U) (hg : ∀ U, Inv U → kL p l e s m below meth c b B0 D cy Z 1074 (ll i) [] U) : kL p l e s m below meth c b B0 D cy Z 713 (ll i) [.inl a, .inl a] U := by
  refine wpL_go hc (fun pc => true) 0 dL_law_713 ?_
  simp only [wpL_s, l_if_icmp, e_wIc_eq, jL_713]
  exact ⟨fun _ => hg U hI, fun z => absurd trivial z⟩
set_option maxRecDepth 20000 in
set_option maxHeartbeats 4000000 in
theorem lB_drop (hc : cLx p s m meth c b B0 L xs D cy) {i a : Int} {T : aS} (h0 : 0 ≤ i) (h6 : i + 6 ≤ L) (h : spX12_drop [.inr (.inr 245), .inl (xs (i + 1).toNat).toInt] T (Eqv (some (.inl a)))) (hg : ∀ U, Inv U → kL p l e s m below meth c b B0 D cy Z 1074 (ll i) [] U) : kL p l e s m below meth c b B0 D cy Z 704 (ll i) [.inl a] T := by
  have hL : L ≤ 3072 := hc.2.2.2.2.2.2.2.2.2.2.2
  refine wpL_ok hc (fun pc => pc == 713) 7 704 _ [.inl a] T ?_
  unfold ll
  simp only [wpL_s, wpC_f, wpC_t, l_iaload, l_alen, l_call, l_aload_n, l_iload_n, l_iconst, l_bipush, l_iadd, l_isub, l_iand, l_if_icmp, l_goto, l_iinc, l_tsw, l_cl, l_c0, l_c1, e_wLd, e_wLd0, e_wLd1, e_wLd2, e_get1, e_get2, e_wJ, e_wJo, f40, f41, f42, f43, Nat.reduceAdd, Nat.reduceBEq, Nat.reduceMul, eq_self, true_or, or_true, true_and, e_wI2, e_wIc_eq, e_wIc_gt, e_pop0, e_pop1, e_tl0, e_tl1, ic_1, ic_2, ic_3, ic_4, ic_5, bpL_6, bpL_31, tbC_85, dL_law_704, dL_law_705, dL_law_706, dL_law_707, dL_law_708, dL_law_709, dL_law_710]
  simp (disch := omega) only [wI_id]
  refine ⟨by omega, by omega, Eqv (some (.inl a)), h, fun v U hv => ?_⟩
  obtain ⟨hv, hI⟩ := hv
  subst hv
  exact lC_drop hc hI hg
set_option maxRecDepth 20000 in
set_option maxHeartbeats 4000000 in
theorem lA_drop (hc : cLx p s m meth c b B0 L xs D cy) {i : Int} {S : aS} (h0 : 0 ≤ i) (h6 : i + 6 ≤ L) (hI : Inv S) (hg : ∀ U, Inv U → kL p l e s m below meth c b B0 D cy Z 1074 (ll i) [] U) : kL p l e s m below meth c b B0 D cy Z 695 (ll i) [] S := by
  have hL : L ≤ 3072 := hc.2.2.2.2.2.2.2.2.2.2.2
  refine wpL_ok hc (fun pc => pc == 704) 7 695 _ [] S ?_
  unfold ll
  simp only [wpL_s, wpC_f, wpC_t, l_iaload, l_alen, l_call, l_aload_n, l_iload_n, l_iconst, l_bipush, l_iadd, l_isub, l_iand, l_if_icmp, l_goto, l_iinc, l_tsw, l_cl, l_c0, l_c1, e_wLd, e_wLd0, e_wLd1, e_wLd2, e_get1, e_get2, e_wJ, e_wJo, f40, f41, f42, f43, Nat.reduceAdd, Nat.reduceBEq, Nat.reduceMul, eq_self, true_or, or_true, true_and, e_wI2, e_wIc_eq, e_wIc_gt, e_pop0, e_pop1, e_tl0, e_tl1, ic_1, ic_2, ic_3, ic_4, ic_5, bpL_6, bpL_31, tbC_81, dL_law_695, dL_law_696, dL_law_697, dL_law_698, dL_law_699, dL_law_700, dL_law_701]
  simp (disch := omega) only [wI_id]
  refine ⟨by omega, by omega, ityp (fun r T => spX12_drop [.inr (.inr 245), .inl (xs (i + 1).toNat).toInt] T (Eqv r)), st_drop (eq_drop hI), fun v T hv => ?_⟩
  obtain ⟨⟨a, rfl⟩, h2⟩ := hv
  exact lB_drop hc h0 h6 h2 hg
theorem st_point {S : aS} {x0 x1 : Int} {Q : Option aV → aS → Prop} (h : spX11_point [.inr (.inr 0), .inl x0, .inl x1] S Q) : spX11_point [.inr (.inr 0), .inl x0, .inl x1] S (ityp Q) := by
  unfold spX11_point at h ⊢
  simp only [ityp_i]
  exact h
theorem jL_746 : jt 746 328 = some 1074 := rfl
theorem lC_point (hc : cLx p s m meth c b B0 L xs D cy) {i a : Int} {U : aS} (hI : Inv U) (hg : ∀ U, Inv U → kL p l e s m below meth c b B0 D cy Z 1074 (ll i) [] U) : kL p l e s m below meth c b B0 D cy Z 746 (ll i) [.inl a, .inl a] U := by
  refine wpL_go hc (fun pc => true) 0 dL_law_746 ?_
  simp only [wpL_s, l_if_icmp, e_wIc_eq, jL_746]
  exact ⟨fun _ => hg U hI, fun z => absurd trivial z⟩
set_option maxRecDepth 20000 in
set_option maxHeartbeats 4000000 in
theorem lB_point (hc : cLx p s m meth c b B0 L xs D cy) {i a : Int} {T : aS} (h0 : 0 ≤ i) (h6 : i + 6 ≤ L) (h : spX12_point [.inr (.inr 245), .inl (xs (i + 1).toNat).toInt, .inl (xs (i + 2).toNat).toInt] T (Eqv (some (.inl a)))) (hg : ∀ U, Inv U → kL p l e s m below meth c b B0 D cy Z 1074 (ll i) [] U) : kL p l e s m below meth c b B0 D cy Z 732 (ll i) [.inl a] T := by
  have hL : L ≤ 3072 := hc.2.2.2.2.2.2.2.2.2.2.2
  refine wpL_ok hc (fun pc => pc == 746) 12 732 _ [.inl a] T ?_
  unfold ll
  simp only [wpL_s, wpC_f, wpC_t, l_iaload, l_alen, l_call, l_aload_n, l_iload_n, l_iconst, l_bipush, l_iadd, l_isub, l_iand, l_if_icmp, l_goto, l_iinc, l_tsw, l_cl, l_c0, l_c1, e_wLd, e_wLd0, e_wLd1, e_wLd2, e_get1, e_get2, e_wJ, e_wJo, f40, f41, f42, f43, Nat.reduceAdd, Nat.reduceBEq, Nat.reduceMul, eq_self, true_or, or_true, true_and, e_wI2, e_wIc_eq, e_wIc_gt, e_pop0, e_pop1, e_tl0, e_tl1, ic_1, ic_2, ic_3, ic_4, ic_5, bpL_6, bpL_31, tbC_89, dL_law_732, dL_law_733, dL_law_734, dL_law_735, dL_law_736, dL_law_737, dL_law_738, dL_law_739, dL_law_740, dL_law_741, dL_law_742, dL_law_743]
  simp (disch := omega) only [wI_id]
  refine ⟨by omega, by omega, by omega, by omega, Eqv (some (.inl a)), h, fun v U hv => ?_⟩
  obtain ⟨hv, hI⟩ := hv
  subst hv
  exact lC_point hc hI hg
set_option maxRecDepth 20000 in
set_option maxHeartbeats 4000000 in
theorem lA_point (hc : cLx p s m meth c b B0 L xs D cy) {i : Int} {S : aS} (h0 : 0 ≤ i) (h6 : i + 6 ≤ L) (hI : Inv S) (hg : ∀ U, Inv U → kL p l e s m below meth c b B0 D cy Z 1074 (ll i) [] U) : kL p l e s m below meth c b B0 D cy Z 718 (ll i) [] S := by
  have hL : L ≤ 3072 := hc.2.2.2.2.2.2.2.2.2.2.2
  refine wpL_ok hc (fun pc => pc == 732) 12 718 _ [] S ?_
  unfold ll
  simp only [wpL_s, wpC_f, wpC_t, l_iaload, l_alen, l_call, l_aload_n, l_iload_n, l_iconst, l_bipush, l_iadd, l_isub, l_iand, l_if_icmp, l_goto, l_iinc, l_tsw, l_cl, l_c0, l_c1, e_wLd, e_wLd0, e_wLd1, e_wLd2, e_get1, e_get2, e_wJ, e_wJo, f40, f41, f42, f43, Nat.reduceAdd, Nat.reduceBEq, Nat.reduceMul, eq_self, true_or, or_true, true_and, e_wI2, e_wIc_eq, e_wIc_gt, e_pop0, e_pop1, e_tl0, e_tl1, ic_1, ic_2, ic_3, ic_4, ic_5, bpL_6, bpL_31, tbC_86, dL_law_718, dL_law_719, dL_law_720, dL_law_721, dL_law_722, dL_law_723, dL_law_724, dL_law_725, dL_law_726, dL_law_727, dL_law_728, dL_law_729]
  simp (disch := omega) only [wI_id]
  refine ⟨by omega, by omega, by omega, by omega, ityp (fun r T => spX12_point [.inr (.inr 245), .inl (xs (i + 1).toNat).toInt, .inl (xs (i + 2).toNat).toInt] T (Eqv r)), st_point (eq_point hI), fun v T hv => ?_⟩
  obtain ⟨⟨a, rfl⟩, h2⟩ := hv
  exact lB_point hc h0 h6 h2 hg
theorem st_lead {S : aS} {x0 x1 : Int} {Q : Option aV → aS → Prop} (h : spX11_lead [.inr (.inr 0), .inl x0, .inl x1] S Q) : spX11_lead [.inr (.inr 0), .inl x0, .inl x1] S (ityp Q) := by
  unfold spX11_lead at h ⊢
  simp only [ityp_i]
  exact h
theorem jL_779 : jt 779 295 = some 1074 := rfl
theorem lC_lead (hc : cLx p s m meth c b B0 L xs D cy) {i a : Int} {U : aS} (hI : Inv U) (hg : ∀ U, Inv U → kL p l e s m below meth c b B0 D cy Z 1074 (ll i) [] U) : kL p l e s m below meth c b B0 D cy Z 779 (ll i) [.inl a, .inl a] U := by
  refine wpL_go hc (fun pc => true) 0 dL_law_779 ?_
  simp only [wpL_s, l_if_icmp, e_wIc_eq, jL_779]
  exact ⟨fun _ => hg U hI, fun z => absurd trivial z⟩
set_option maxRecDepth 20000 in
set_option maxHeartbeats 4000000 in
theorem lB_lead (hc : cLx p s m meth c b B0 L xs D cy) {i a : Int} {T : aS} (h0 : 0 ≤ i) (h6 : i + 6 ≤ L) (h : spX12_lead [.inr (.inr 245), .inl (xs (i + 1).toNat).toInt, .inl (xs (i + 2).toNat).toInt] T (Eqv (some (.inl a)))) (hg : ∀ U, Inv U → kL p l e s m below meth c b B0 D cy Z 1074 (ll i) [] U) : kL p l e s m below meth c b B0 D cy Z 765 (ll i) [.inl a] T := by
  have hL : L ≤ 3072 := hc.2.2.2.2.2.2.2.2.2.2.2
  refine wpL_ok hc (fun pc => pc == 779) 12 765 _ [.inl a] T ?_
  unfold ll
  simp only [wpL_s, wpC_f, wpC_t, l_iaload, l_alen, l_call, l_aload_n, l_iload_n, l_iconst, l_bipush, l_iadd, l_isub, l_iand, l_if_icmp, l_goto, l_iinc, l_tsw, l_cl, l_c0, l_c1, e_wLd, e_wLd0, e_wLd1, e_wLd2, e_get1, e_get2, e_wJ, e_wJo, f40, f41, f42, f43, Nat.reduceAdd, Nat.reduceBEq, Nat.reduceMul, eq_self, true_or, or_true, true_and, e_wI2, e_wIc_eq, e_wIc_gt, e_pop0, e_pop1, e_tl0, e_tl1, ic_1, ic_2, ic_3, ic_4, ic_5, bpL_6, bpL_31, tbC_93, dL_law_765, dL_law_766, dL_law_767, dL_law_768, dL_law_769, dL_law_770, dL_law_771, dL_law_772, dL_law_773, dL_law_774, dL_law_775, dL_law_776]
  simp (disch := omega) only [wI_id]
  refine ⟨by omega, by omega, by omega, by omega, Eqv (some (.inl a)), h, fun v U hv => ?_⟩
  obtain ⟨hv, hI⟩ := hv
  subst hv
  exact lC_lead hc hI hg
set_option maxRecDepth 20000 in
set_option maxHeartbeats 4000000 in
theorem lA_lead (hc : cLx p s m meth c b B0 L xs D cy) {i : Int} {S : aS} (h0 : 0 ≤ i) (h6 : i + 6 ≤ L) (hI : Inv S) (hg : ∀ U, Inv U → kL p l e s m below meth c b B0 D cy Z 1074 (ll i) [] U) : kL p l e s m below meth c b B0 D cy Z 751 (ll i) [] S := by
  have hL : L ≤ 3072 := hc.2.2.2.2.2.2.2.2.2.2.2
  refine wpL_ok hc (fun pc => pc == 765) 12 751 _ [] S ?_
  unfold ll
  simp only [wpL_s, wpC_f, wpC_t, l_iaload, l_alen, l_call, l_aload_n, l_iload_n, l_iconst, l_bipush, l_iadd, l_isub, l_iand, l_if_icmp, l_goto, l_iinc, l_tsw, l_cl, l_c0, l_c1, e_wLd, e_wLd0, e_wLd1, e_wLd2, e_get1, e_get2, e_wJ, e_wJo, f40, f41, f42, f43, Nat.reduceAdd, Nat.reduceBEq, Nat.reduceMul, eq_self, true_or, or_true, true_and, e_wI2, e_wIc_eq, e_wIc_gt, e_pop0, e_pop1, e_tl0, e_tl1, ic_1, ic_2, ic_3, ic_4, ic_5, bpL_6, bpL_31, tbC_90, dL_law_751, dL_law_752, dL_law_753, dL_law_754, dL_law_755, dL_law_756, dL_law_757, dL_law_758, dL_law_759, dL_law_760, dL_law_761, dL_law_762]
  simp (disch := omega) only [wI_id]
  refine ⟨by omega, by omega, by omega, by omega, ityp (fun r T => spX12_lead [.inr (.inr 245), .inl (xs (i + 1).toNat).toInt, .inl (xs (i + 2).toNat).toInt] T (Eqv r)), st_lead (eq_lead hI), fun v T hv => ?_⟩
  obtain ⟨⟨a, rfl⟩, h2⟩ := hv
  exact lB_lead hc h0 h6 h2 hg
theorem st_told {S : aS} {x0 x1 : Int} {Q : Option aV → aS → Prop} (h : spX11_told [.inr (.inr 0), .inl x0, .inl x1] S Q) : spX11_told [.inr (.inr 0), .inl x0, .inl x1] S (ityp Q) := by
  unfold spX11_told at h ⊢
  simp only [ityp_i]
  exact h
theorem jL_812 : jt 812 262 = some 1074 := rfl
theorem lC_told (hc : cLx p s m meth c b B0 L xs D cy) {i a : Int} {U : aS} (hI : Inv U) (hg : ∀ U, Inv U → kL p l e s m below meth c b B0 D cy Z 1074 (ll i) [] U) : kL p l e s m below meth c b B0 D cy Z 812 (ll i) [.inl a, .inl a] U := by
  refine wpL_go hc (fun pc => true) 0 dL_law_812 ?_
  simp only [wpL_s, l_if_icmp, e_wIc_eq, jL_812]
  exact ⟨fun _ => hg U hI, fun z => absurd trivial z⟩
set_option maxRecDepth 20000 in
set_option maxHeartbeats 4000000 in
theorem lB_told (hc : cLx p s m meth c b B0 L xs D cy) {i a : Int} {T : aS} (h0 : 0 ≤ i) (h6 : i + 6 ≤ L) (h : spX12_told [.inr (.inr 245), .inl (xs (i + 1).toNat).toInt, .inl (xs (i + 2).toNat).toInt] T (Eqv (some (.inl a)))) (hg : ∀ U, Inv U → kL p l e s m below meth c b B0 D cy Z 1074 (ll i) [] U) : kL p l e s m below meth c b B0 D cy Z 798 (ll i) [.inl a] T := by
  have hL : L ≤ 3072 := hc.2.2.2.2.2.2.2.2.2.2.2
  refine wpL_ok hc (fun pc => pc == 812) 12 798 _ [.inl a] T ?_
  unfold ll
  simp only [wpL_s, wpC_f, wpC_t, l_iaload, l_alen, l_call, l_aload_n, l_iload_n, l_iconst, l_bipush, l_iadd, l_isub, l_iand, l_if_icmp, l_goto, l_iinc, l_tsw, l_cl, l_c0, l_c1, e_wLd, e_wLd0, e_wLd1, e_wLd2, e_get1, e_get2, e_wJ, e_wJo, f40, f41, f42, f43, Nat.reduceAdd, Nat.reduceBEq, Nat.reduceMul, eq_self, true_or, or_true, true_and, e_wI2, e_wIc_eq, e_wIc_gt, e_pop0, e_pop1, e_tl0, e_tl1, ic_1, ic_2, ic_3, ic_4, ic_5, bpL_6, bpL_31, tbC_97, dL_law_798, dL_law_799, dL_law_800, dL_law_801, dL_law_802, dL_law_803, dL_law_804, dL_law_805, dL_law_806, dL_law_807, dL_law_808, dL_law_809]
  simp (disch := omega) only [wI_id]
  refine ⟨by omega, by omega, by omega, by omega, Eqv (some (.inl a)), h, fun v U hv => ?_⟩
  obtain ⟨hv, hI⟩ := hv
  subst hv
  exact lC_told hc hI hg
set_option maxRecDepth 20000 in
set_option maxHeartbeats 4000000 in
theorem lA_told (hc : cLx p s m meth c b B0 L xs D cy) {i : Int} {S : aS} (h0 : 0 ≤ i) (h6 : i + 6 ≤ L) (hI : Inv S) (hg : ∀ U, Inv U → kL p l e s m below meth c b B0 D cy Z 1074 (ll i) [] U) : kL p l e s m below meth c b B0 D cy Z 784 (ll i) [] S := by
  have hL : L ≤ 3072 := hc.2.2.2.2.2.2.2.2.2.2.2
  refine wpL_ok hc (fun pc => pc == 798) 12 784 _ [] S ?_
  unfold ll
  simp only [wpL_s, wpC_f, wpC_t, l_iaload, l_alen, l_call, l_aload_n, l_iload_n, l_iconst, l_bipush, l_iadd, l_isub, l_iand, l_if_icmp, l_goto, l_iinc, l_tsw, l_cl, l_c0, l_c1, e_wLd, e_wLd0, e_wLd1, e_wLd2, e_get1, e_get2, e_wJ, e_wJo, f40, f41, f42, f43, Nat.reduceAdd, Nat.reduceBEq, Nat.reduceMul, eq_self, true_or, or_true, true_and, e_wI2, e_wIc_eq, e_wIc_gt, e_pop0, e_pop1, e_tl0, e_tl1, ic_1, ic_2, ic_3, ic_4, ic_5, bpL_6, bpL_31, tbC_94, dL_law_784, dL_law_785, dL_law_786, dL_law_787, dL_law_788, dL_law_789, dL_law_790, dL_law_791, dL_law_792, dL_law_793, dL_law_794, dL_law_795]
  simp (disch := omega) only [wI_id]
  refine ⟨by omega, by omega, by omega, by omega, ityp (fun r T => spX12_told [.inr (.inr 245), .inl (xs (i + 1).toNat).toInt, .inl (xs (i + 2).toNat).toInt] T (Eqv r)), st_told (eq_told hI), fun v T hv => ?_⟩
  obtain ⟨⟨a, rfl⟩, h2⟩ := hv
  exact lB_told hc h0 h6 h2 hg
theorem st_older {S : aS} {x0 x1 : Int} {Q : Option aV → aS → Prop} (h : spX11_older [.inr (.inr 0), .inl x0, .inl x1] S Q) : spX11_older [.inr (.inr 0), .inl x0, .inl x1] S (ityp Q) := by
  unfold spX11_older at h ⊢
  simp only [ityp_i]
  exact h
theorem jL_845 : jt 845 229 = some 1074 := rfl
theorem lC_older (hc : cLx p s m meth c b B0 L xs D cy) {i a : Int} {U : aS} (hI : Inv U) (hg : ∀ U, Inv U → kL p l e s m below meth c b B0 D cy Z 1074 (ll i) [] U) : kL p l e s m below meth c b B0 D cy Z 845 (ll i) [.inl a, .inl a] U := by
  refine wpL_go hc (fun pc => true) 0 dL_law_845 ?_
  simp only [wpL_s, l_if_icmp, e_wIc_eq, jL_845]
  exact ⟨fun _ => hg U hI, fun z => absurd trivial z⟩
set_option maxRecDepth 20000 in
set_option maxHeartbeats 4000000 in
theorem lB_older (hc : cLx p s m meth c b B0 L xs D cy) {i a : Int} {T : aS} (h0 : 0 ≤ i) (h6 : i + 6 ≤ L) (h : spX12_older [.inr (.inr 245), .inl (xs (i + 1).toNat).toInt, .inl (xs (i + 2).toNat).toInt] T (Eqv (some (.inl a)))) (hg : ∀ U, Inv U → kL p l e s m below meth c b B0 D cy Z 1074 (ll i) [] U) : kL p l e s m below meth c b B0 D cy Z 831 (ll i) [.inl a] T := by
  have hL : L ≤ 3072 := hc.2.2.2.2.2.2.2.2.2.2.2
  refine wpL_ok hc (fun pc => pc == 845) 12 831 _ [.inl a] T ?_
  unfold ll
  simp only [wpL_s, wpC_f, wpC_t, l_iaload, l_alen, l_call, l_aload_n, l_iload_n, l_iconst, l_bipush, l_iadd, l_isub, l_iand, l_if_icmp, l_goto, l_iinc, l_tsw, l_cl, l_c0, l_c1, e_wLd, e_wLd0, e_wLd1, e_wLd2, e_get1, e_get2, e_wJ, e_wJo, f40, f41, f42, f43, Nat.reduceAdd, Nat.reduceBEq, Nat.reduceMul, eq_self, true_or, or_true, true_and, e_wI2, e_wIc_eq, e_wIc_gt, e_pop0, e_pop1, e_tl0, e_tl1, ic_1, ic_2, ic_3, ic_4, ic_5, bpL_6, bpL_31, tbC_101, dL_law_831, dL_law_832, dL_law_833, dL_law_834, dL_law_835, dL_law_836, dL_law_837, dL_law_838, dL_law_839, dL_law_840, dL_law_841, dL_law_842]
  simp (disch := omega) only [wI_id]
  refine ⟨by omega, by omega, by omega, by omega, Eqv (some (.inl a)), h, fun v U hv => ?_⟩
  obtain ⟨hv, hI⟩ := hv
  subst hv
  exact lC_older hc hI hg
set_option maxRecDepth 20000 in
set_option maxHeartbeats 4000000 in
theorem lA_older (hc : cLx p s m meth c b B0 L xs D cy) {i : Int} {S : aS} (h0 : 0 ≤ i) (h6 : i + 6 ≤ L) (hI : Inv S) (hg : ∀ U, Inv U → kL p l e s m below meth c b B0 D cy Z 1074 (ll i) [] U) : kL p l e s m below meth c b B0 D cy Z 817 (ll i) [] S := by
  have hL : L ≤ 3072 := hc.2.2.2.2.2.2.2.2.2.2.2
  refine wpL_ok hc (fun pc => pc == 831) 12 817 _ [] S ?_
  unfold ll
  simp only [wpL_s, wpC_f, wpC_t, l_iaload, l_alen, l_call, l_aload_n, l_iload_n, l_iconst, l_bipush, l_iadd, l_isub, l_iand, l_if_icmp, l_goto, l_iinc, l_tsw, l_cl, l_c0, l_c1, e_wLd, e_wLd0, e_wLd1, e_wLd2, e_get1, e_get2, e_wJ, e_wJo, f40, f41, f42, f43, Nat.reduceAdd, Nat.reduceBEq, Nat.reduceMul, eq_self, true_or, or_true, true_and, e_wI2, e_wIc_eq, e_wIc_gt, e_pop0, e_pop1, e_tl0, e_tl1, ic_1, ic_2, ic_3, ic_4, ic_5, bpL_6, bpL_31, tbC_98, dL_law_817, dL_law_818, dL_law_819, dL_law_820, dL_law_821, dL_law_822, dL_law_823, dL_law_824, dL_law_825, dL_law_826, dL_law_827, dL_law_828]
  simp (disch := omega) only [wI_id]
  refine ⟨by omega, by omega, by omega, by omega, ityp (fun r T => spX12_older [.inr (.inr 245), .inl (xs (i + 1).toNat).toInt, .inl (xs (i + 2).toNat).toInt] T (Eqv r)), st_older (eq_older hI), fun v T hv => ?_⟩
  obtain ⟨⟨a, rfl⟩, h2⟩ := hv
  exact lB_older hc h0 h6 h2 hg
theorem st_flaw {S : aS} {x0 : Int} {Q : Option aV → aS → Prop} (h : spX11_flaw [.inr (.inr 0), .inl x0] S Q) : spX11_flaw [.inr (.inr 0), .inl x0] S (ityp Q) := by
  unfold spX11_flaw at h ⊢
  simp only [ityp_i]
  exact h
theorem jL_868 : jt 868 206 = some 1074 := rfl
theorem lC_flaw (hc : cLx p s m meth c b B0 L xs D cy) {i a : Int} {U : aS} (hI : Inv U) (hg : ∀ U, Inv U → kL p l e s m below meth c b B0 D cy Z 1074 (ll i) [] U) : kL p l e s m below meth c b B0 D cy Z 868 (ll i) [.inl a, .inl a] U := by
  refine wpL_go hc (fun pc => true) 0 dL_law_868 ?_
  simp only [wpL_s, l_if_icmp, e_wIc_eq, jL_868]
  exact ⟨fun _ => hg U hI, fun z => absurd trivial z⟩
set_option maxRecDepth 20000 in
set_option maxHeartbeats 4000000 in
theorem lB_flaw (hc : cLx p s m meth c b B0 L xs D cy) {i a : Int} {T : aS} (h0 : 0 ≤ i) (h6 : i + 6 ≤ L) (h : spX12_flaw [.inr (.inr 245), .inl (xs (i + 1).toNat).toInt] T (Eqv (some (.inl a)))) (hg : ∀ U, Inv U → kL p l e s m below meth c b B0 D cy Z 1074 (ll i) [] U) : kL p l e s m below meth c b B0 D cy Z 859 (ll i) [.inl a] T := by
  have hL : L ≤ 3072 := hc.2.2.2.2.2.2.2.2.2.2.2
  refine wpL_ok hc (fun pc => pc == 868) 7 859 _ [.inl a] T ?_
  unfold ll
  simp only [wpL_s, wpC_f, wpC_t, l_iaload, l_alen, l_call, l_aload_n, l_iload_n, l_iconst, l_bipush, l_iadd, l_isub, l_iand, l_if_icmp, l_goto, l_iinc, l_tsw, l_cl, l_c0, l_c1, e_wLd, e_wLd0, e_wLd1, e_wLd2, e_get1, e_get2, e_wJ, e_wJo, f40, f41, f42, f43, Nat.reduceAdd, Nat.reduceBEq, Nat.reduceMul, eq_self, true_or, or_true, true_and, e_wI2, e_wIc_eq, e_wIc_gt, e_pop0, e_pop1, e_tl0, e_tl1, ic_1, ic_2, ic_3, ic_4, ic_5, bpL_6, bpL_31, tbC_105, dL_law_859, dL_law_860, dL_law_861, dL_law_862, dL_law_863, dL_law_864, dL_law_865]
  simp (disch := omega) only [wI_id]
  refine ⟨by omega, by omega, Eqv (some (.inl a)), h, fun v U hv => ?_⟩
  obtain ⟨hv, hI⟩ := hv
  subst hv
  exact lC_flaw hc hI hg
set_option maxRecDepth 20000 in
set_option maxHeartbeats 4000000 in
theorem lA_flaw (hc : cLx p s m meth c b B0 L xs D cy) {i : Int} {S : aS} (h0 : 0 ≤ i) (h6 : i + 6 ≤ L) (hI : Inv S) (hg : ∀ U, Inv U → kL p l e s m below meth c b B0 D cy Z 1074 (ll i) [] U) : kL p l e s m below meth c b B0 D cy Z 850 (ll i) [] S := by
  have hL : L ≤ 3072 := hc.2.2.2.2.2.2.2.2.2.2.2
  refine wpL_ok hc (fun pc => pc == 859) 7 850 _ [] S ?_
  unfold ll
  simp only [wpL_s, wpC_f, wpC_t, l_iaload, l_alen, l_call, l_aload_n, l_iload_n, l_iconst, l_bipush, l_iadd, l_isub, l_iand, l_if_icmp, l_goto, l_iinc, l_tsw, l_cl, l_c0, l_c1, e_wLd, e_wLd0, e_wLd1, e_wLd2, e_get1, e_get2, e_wJ, e_wJo, f40, f41, f42, f43, Nat.reduceAdd, Nat.reduceBEq, Nat.reduceMul, eq_self, true_or, or_true, true_and, e_wI2, e_wIc_eq, e_wIc_gt, e_pop0, e_pop1, e_tl0, e_tl1, ic_1, ic_2, ic_3, ic_4, ic_5, bpL_6, bpL_31, tbC_102, dL_law_850, dL_law_851, dL_law_852, dL_law_853, dL_law_854, dL_law_855, dL_law_856]
  simp (disch := omega) only [wI_id]
  refine ⟨by omega, by omega, ityp (fun r T => spX12_flaw [.inr (.inr 245), .inl (xs (i + 1).toNat).toInt] T (Eqv r)), st_flaw (eq_flaw hI), fun v T hv => ?_⟩
  obtain ⟨⟨a, rfl⟩, h2⟩ := hv
  exact lB_flaw hc h0 h6 h2 hg
theorem st_where {S : aS} {x0 x1 : Int} {Q : Option aV → aS → Prop} (h : spX11_where [.inr (.inr 0), .inl x0, .inl x1] S Q) : spX11_where [.inr (.inr 0), .inl x0, .inl x1] S (ityp Q) := by
  unfold spX11_where at h ⊢
  simp only [ityp_i]
  exact h
theorem jL_901 : jt 901 173 = some 1074 := rfl
theorem lC_where (hc : cLx p s m meth c b B0 L xs D cy) {i a : Int} {U : aS} (hI : Inv U) (hg : ∀ U, Inv U → kL p l e s m below meth c b B0 D cy Z 1074 (ll i) [] U) : kL p l e s m below meth c b B0 D cy Z 901 (ll i) [.inl a, .inl a] U := by
  refine wpL_go hc (fun pc => true) 0 dL_law_901 ?_
  simp only [wpL_s, l_if_icmp, e_wIc_eq, jL_901]
  exact ⟨fun _ => hg U hI, fun z => absurd trivial z⟩
set_option maxRecDepth 20000 in
set_option maxHeartbeats 4000000 in
theorem lB_where (hc : cLx p s m meth c b B0 L xs D cy) {i a : Int} {T : aS} (h0 : 0 ≤ i) (h6 : i + 6 ≤ L) (h : spX12_where [.inr (.inr 245), .inl (xs (i + 1).toNat).toInt, .inl (xs (i + 2).toNat).toInt] T (Eqv (some (.inl a)))) (hg : ∀ U, Inv U → kL p l e s m below meth c b B0 D cy Z 1074 (ll i) [] U) : kL p l e s m below meth c b B0 D cy Z 887 (ll i) [.inl a] T := by
  have hL : L ≤ 3072 := hc.2.2.2.2.2.2.2.2.2.2.2
  refine wpL_ok hc (fun pc => pc == 901) 12 887 _ [.inl a] T ?_
  unfold ll
  simp only [wpL_s, wpC_f, wpC_t, l_iaload, l_alen, l_call, l_aload_n, l_iload_n, l_iconst, l_bipush, l_iadd, l_isub, l_iand, l_if_icmp, l_goto, l_iinc, l_tsw, l_cl, l_c0, l_c1, e_wLd, e_wLd0, e_wLd1, e_wLd2, e_get1, e_get2, e_wJ, e_wJo, f40, f41, f42, f43, Nat.reduceAdd, Nat.reduceBEq, Nat.reduceMul, eq_self, true_or, or_true, true_and, e_wI2, e_wIc_eq, e_wIc_gt, e_pop0, e_pop1, e_tl0, e_tl1, ic_1, ic_2, ic_3, ic_4, ic_5, bpL_6, bpL_31, tbC_109, dL_law_887, dL_law_888, dL_law_889, dL_law_890, dL_law_891, dL_law_892, dL_law_893, dL_law_894, dL_law_895, dL_law_896, dL_law_897, dL_law_898]
  simp (disch := omega) only [wI_id]
  refine ⟨by omega, by omega, by omega, by omega, Eqv (some (.inl a)), h, fun v U hv => ?_⟩
  obtain ⟨hv, hI⟩ := hv
  subst hv
  exact lC_where hc hI hg
set_option maxRecDepth 20000 in
set_option maxHeartbeats 4000000 in
theorem lA_where (hc : cLx p s m meth c b B0 L xs D cy) {i : Int} {S : aS} (h0 : 0 ≤ i) (h6 : i + 6 ≤ L) (hI : Inv S) (hg : ∀ U, Inv U → kL p l e s m below meth c b B0 D cy Z 1074 (ll i) [] U) : kL p l e s m below meth c b B0 D cy Z 873 (ll i) [] S := by
  have hL : L ≤ 3072 := hc.2.2.2.2.2.2.2.2.2.2.2
  refine wpL_ok hc (fun pc => pc == 887) 12 873 _ [] S ?_
  unfold ll
  simp only [wpL_s, wpC_f, wpC_t, l_iaload, l_alen, l_call, l_aload_n, l_iload_n, l_iconst, l_bipush, l_iadd, l_isub, l_iand, l_if_icmp, l_goto, l_iinc, l_tsw, l_cl, l_c0, l_c1, e_wLd, e_wLd0, e_wLd1, e_wLd2, e_get1, e_get2, e_wJ, e_wJo, f40, f41, f42, f43, Nat.reduceAdd, Nat.reduceBEq, Nat.reduceMul, eq_self, true_or, or_true, true_and, e_wI2, e_wIc_eq, e_wIc_gt, e_pop0, e_pop1, e_tl0, e_tl1, ic_1, ic_2, ic_3, ic_4, ic_5, bpL_6, bpL_31, tbC_106, dL_law_873, dL_law_874, dL_law_875, dL_law_876, dL_law_877, dL_law_878, dL_law_879, dL_law_880, dL_law_881, dL_law_882, dL_law_883, dL_law_884]
  simp (disch := omega) only [wI_id]
  refine ⟨by omega, by omega, by omega, by omega, ityp (fun r T => spX12_where [.inr (.inr 245), .inl (xs (i + 1).toNat).toInt, .inl (xs (i + 2).toNat).toInt] T (Eqv r)), st_where (eq_where hI (inI_toInt _)), fun v T hv => ?_⟩
  obtain ⟨⟨a, rfl⟩, h2⟩ := hv
  exact lB_where hc h0 h6 h2 hg
theorem st_edition {S : aS} {Q : Option aV → aS → Prop} (h : spX11_edition [.inr (.inr 0)] S Q) : spX11_edition [.inr (.inr 0)] S (ityp Q) := by
  unfold spX11_edition at h ⊢
  simp only [ityp_i]
  exact h
theorem jL_914 : jt 914 160 = some 1074 := rfl
theorem lC_edition (hc : cLx p s m meth c b B0 L xs D cy) {i a : Int} {U : aS} (hI : Inv U) (hg : ∀ U, Inv U → kL p l e s m below meth c b B0 D cy Z 1074 (ll i) [] U) : kL p l e s m below meth c b B0 D cy Z 914 (ll i) [.inl a, .inl a] U := by
  refine wpL_go hc (fun pc => true) 0 dL_law_914 ?_
  simp only [wpL_s, l_if_icmp, e_wIc_eq, jL_914]
  exact ⟨fun _ => hg U hI, fun z => absurd trivial z⟩
set_option maxRecDepth 20000 in
set_option maxHeartbeats 4000000 in
theorem lB_edition (hc : cLx p s m meth c b B0 L xs D cy) {i a : Int} {T : aS} (h0 : 0 ≤ i) (h6 : i + 6 ≤ L) (h : spX12_edition [.inr (.inr 245)] T (Eqv (some (.inl a)))) (hg : ∀ U, Inv U → kL p l e s m below meth c b B0 D cy Z 1074 (ll i) [] U) : kL p l e s m below meth c b B0 D cy Z 910 (ll i) [.inl a] T := by
  have hL : L ≤ 3072 := hc.2.2.2.2.2.2.2.2.2.2.2
  refine wpL_ok hc (fun pc => pc == 914) 2 910 _ [.inl a] T ?_
  unfold ll
  simp only [wpL_s, wpC_f, wpC_t, l_iaload, l_alen, l_call, l_aload_n, l_iload_n, l_iconst, l_bipush, l_iadd, l_isub, l_iand, l_if_icmp, l_goto, l_iinc, l_tsw, l_cl, l_c0, l_c1, e_wLd, e_wLd0, e_wLd1, e_wLd2, e_get1, e_get2, e_wJ, e_wJo, f40, f41, f42, f43, Nat.reduceAdd, Nat.reduceBEq, Nat.reduceMul, eq_self, true_or, or_true, true_and, e_wI2, e_wIc_eq, e_wIc_gt, e_pop0, e_pop1, e_tl0, e_tl1, ic_1, ic_2, ic_3, ic_4, ic_5, bpL_6, bpL_31, tbC_113, dL_law_910, dL_law_911]
  refine ⟨Eqv (some (.inl a)), h, fun v U hv => ?_⟩
  obtain ⟨hv, hI⟩ := hv
  subst hv
  exact lC_edition hc hI hg
set_option maxRecDepth 20000 in
set_option maxHeartbeats 4000000 in
theorem lA_edition (hc : cLx p s m meth c b B0 L xs D cy) {i : Int} {S : aS} (h0 : 0 ≤ i) (h6 : i + 6 ≤ L) (hI : Inv S) (hg : ∀ U, Inv U → kL p l e s m below meth c b B0 D cy Z 1074 (ll i) [] U) : kL p l e s m below meth c b B0 D cy Z 906 (ll i) [] S := by
  have hL : L ≤ 3072 := hc.2.2.2.2.2.2.2.2.2.2.2
  refine wpL_ok hc (fun pc => pc == 910) 2 906 _ [] S ?_
  unfold ll
  simp only [wpL_s, wpC_f, wpC_t, l_iaload, l_alen, l_call, l_aload_n, l_iload_n, l_iconst, l_bipush, l_iadd, l_isub, l_iand, l_if_icmp, l_goto, l_iinc, l_tsw, l_cl, l_c0, l_c1, e_wLd, e_wLd0, e_wLd1, e_wLd2, e_get1, e_get2, e_wJ, e_wJo, f40, f41, f42, f43, Nat.reduceAdd, Nat.reduceBEq, Nat.reduceMul, eq_self, true_or, or_true, true_and, e_wI2, e_wIc_eq, e_wIc_gt, e_pop0, e_pop1, e_tl0, e_tl1, ic_1, ic_2, ic_3, ic_4, ic_5, bpL_6, bpL_31, tbC_110, dL_law_906, dL_law_907]
  refine ⟨ityp (fun r T => spX12_edition [.inr (.inr 245)] T (Eqv r)), st_edition (eq_edition hI), fun v T hv => ?_⟩
  obtain ⟨⟨a, rfl⟩, h2⟩ := hv
  exact lB_edition hc h0 h6 h2 hg
theorem st_as {S : aS} {x0 x1 x2 : Int} {Q : Option aV → aS → Prop} (h : spX11_as [.inr (.inr 0), .inl x0, .inl x1, .inl x2] S Q) : spX11_as [.inr (.inr 0), .inl x0, .inl x1, .inl x2] S (ityp Q) := by
  unfold spX11_as at h ⊢
  simp only [ityp_i]
  exact h
theorem jL_957 : jt 957 117 = some 1074 := rfl
theorem lC_as (hc : cLx p s m meth c b B0 L xs D cy) {i a : Int} {U : aS} (hI : Inv U) (hg : ∀ U, Inv U → kL p l e s m below meth c b B0 D cy Z 1074 (ll i) [] U) : kL p l e s m below meth c b B0 D cy Z 957 (ll i) [.inl a, .inl a] U := by
  refine wpL_go hc (fun pc => true) 0 dL_law_957 ?_
  simp only [wpL_s, l_if_icmp, e_wIc_eq, jL_957]
  exact ⟨fun _ => hg U hI, fun z => absurd trivial z⟩
set_option maxRecDepth 20000 in
set_option maxHeartbeats 4000000 in
theorem lB_as (hc : cLx p s m meth c b B0 L xs D cy) {i a : Int} {T : aS} (h0 : 0 ≤ i) (h6 : i + 6 ≤ L) (h : spX12_as [.inr (.inr 245), .inl (xs (i + 1).toNat).toInt, .inl (xs (i + 2).toNat).toInt, .inl (xs (i + 3).toNat).toInt] T (Eqv (some (.inl a)))) (hg : ∀ U, Inv U → kL p l e s m below meth c b B0 D cy Z 1074 (ll i) [] U) : kL p l e s m below meth c b B0 D cy Z 938 (ll i) [.inl a] T := by
  have hL : L ≤ 3072 := hc.2.2.2.2.2.2.2.2.2.2.2
  refine wpL_ok hc (fun pc => pc == 957) 17 938 _ [.inl a] T ?_
  unfold ll
  simp only [wpL_s, wpC_f, wpC_t, l_iaload, l_alen, l_call, l_aload_n, l_iload_n, l_iconst, l_bipush, l_iadd, l_isub, l_iand, l_if_icmp, l_goto, l_iinc, l_tsw, l_cl, l_c0, l_c1, e_wLd, e_wLd0, e_wLd1, e_wLd2, e_get1, e_get2, e_wJ, e_wJo, f40, f41, f42, f43, Nat.reduceAdd, Nat.reduceBEq, Nat.reduceMul, eq_self, true_or, or_true, true_and, e_wI2, e_wIc_eq, e_wIc_gt, e_pop0, e_pop1, e_tl0, e_tl1, ic_1, ic_2, ic_3, ic_4, ic_5, bpL_6, bpL_31, tbC_117, dL_law_938, dL_law_939, dL_law_940, dL_law_941, dL_law_942, dL_law_943, dL_law_944, dL_law_945, dL_law_946, dL_law_947, dL_law_948, dL_law_949, dL_law_950, dL_law_951, dL_law_952, dL_law_953, dL_law_954]
  simp (disch := omega) only [wI_id]
  refine ⟨by omega, by omega, by omega, by omega, by omega, by omega, Eqv (some (.inl a)), h, fun v U hv => ?_⟩
  obtain ⟨hv, hI⟩ := hv
  subst hv
  exact lC_as hc hI hg
set_option maxRecDepth 20000 in
set_option maxHeartbeats 4000000 in
theorem lA_as (hc : cLx p s m meth c b B0 L xs D cy) {i : Int} {S : aS} (h0 : 0 ≤ i) (h6 : i + 6 ≤ L) (hI : Inv S) (hg : ∀ U, Inv U → kL p l e s m below meth c b B0 D cy Z 1074 (ll i) [] U) : kL p l e s m below meth c b B0 D cy Z 919 (ll i) [] S := by
  have hL : L ≤ 3072 := hc.2.2.2.2.2.2.2.2.2.2.2
  refine wpL_ok hc (fun pc => pc == 938) 17 919 _ [] S ?_
  unfold ll
  simp only [wpL_s, wpC_f, wpC_t, l_iaload, l_alen, l_call, l_aload_n, l_iload_n, l_iconst, l_bipush, l_iadd, l_isub, l_iand, l_if_icmp, l_goto, l_iinc, l_tsw, l_cl, l_c0, l_c1, e_wLd, e_wLd0, e_wLd1, e_wLd2, e_get1, e_get2, e_wJ, e_wJo, f40, f41, f42, f43, Nat.reduceAdd, Nat.reduceBEq, Nat.reduceMul, eq_self, true_or, or_true, true_and, e_wI2, e_wIc_eq, e_wIc_gt, e_pop0, e_pop1, e_tl0, e_tl1, ic_1, ic_2, ic_3, ic_4, ic_5, bpL_6, bpL_31, tbC_114, dL_law_919, dL_law_920, dL_law_921, dL_law_922, dL_law_923, dL_law_924, dL_law_925, dL_law_926, dL_law_927, dL_law_928, dL_law_929, dL_law_930, dL_law_931, dL_law_932, dL_law_933, dL_law_934, dL_law_935]
  simp (disch := omega) only [wI_id]
  refine ⟨by omega, by omega, by omega, by omega, by omega, by omega, ityp (fun r T => spX12_as [.inr (.inr 245), .inl (xs (i + 1).toNat).toInt, .inl (xs (i + 2).toNat).toInt, .inl (xs (i + 3).toNat).toInt] T (Eqv r)), st_as (eq_as hI), fun v T hv => ?_⟩
  obtain ⟨⟨a, rfl⟩, h2⟩ := hv
  exact lB_as hc h0 h6 h2 hg
theorem st_differ {S : aS} {x0 x1 x2 : Int} {Q : Option aV → aS → Prop} (h : spX11_differ [.inr (.inr 0), .inl x0, .inl x1, .inl x2] S Q) : spX11_differ [.inr (.inr 0), .inl x0, .inl x1, .inl x2] S (ityp Q) := by
  unfold spX11_differ at h ⊢
  simp only [ityp_i]
  exact h
theorem jL_1000 : jt 1000 74 = some 1074 := rfl
theorem lC_differ (hc : cLx p s m meth c b B0 L xs D cy) {i a : Int} {U : aS} (hI : Inv U) (hg : ∀ U, Inv U → kL p l e s m below meth c b B0 D cy Z 1074 (ll i) [] U) : kL p l e s m below meth c b B0 D cy Z 1000 (ll i) [.inl a, .inl a] U := by
  refine wpL_go hc (fun pc => true) 0 dL_law_1000 ?_
  simp only [wpL_s, l_if_icmp, e_wIc_eq, jL_1000]
  exact ⟨fun _ => hg U hI, fun z => absurd trivial z⟩
set_option maxRecDepth 20000 in
set_option maxHeartbeats 4000000 in
theorem lB_differ (hc : cLx p s m meth c b B0 L xs D cy) {i a : Int} {T : aS} (h0 : 0 ≤ i) (h6 : i + 6 ≤ L) (h : spX12_differ [.inr (.inr 245), .inl (xs (i + 1).toNat).toInt, .inl (xs (i + 2).toNat).toInt, .inl (xs (i + 3).toNat).toInt] T (Eqv (some (.inl a)))) (hg : ∀ U, Inv U → kL p l e s m below meth c b B0 D cy Z 1074 (ll i) [] U) : kL p l e s m below meth c b B0 D cy Z 981 (ll i) [.inl a] T := by
  have hL : L ≤ 3072 := hc.2.2.2.2.2.2.2.2.2.2.2
  refine wpL_ok hc (fun pc => pc == 1000) 17 981 _ [.inl a] T ?_
  unfold ll
  simp only [wpL_s, wpC_f, wpC_t, l_iaload, l_alen, l_call, l_aload_n, l_iload_n, l_iconst, l_bipush, l_iadd, l_isub, l_iand, l_if_icmp, l_goto, l_iinc, l_tsw, l_cl, l_c0, l_c1, e_wLd, e_wLd0, e_wLd1, e_wLd2, e_get1, e_get2, e_wJ, e_wJo, f40, f41, f42, f43, Nat.reduceAdd, Nat.reduceBEq, Nat.reduceMul, eq_self, true_or, or_true, true_and, e_wI2, e_wIc_eq, e_wIc_gt, e_pop0, e_pop1, e_tl0, e_tl1, ic_1, ic_2, ic_3, ic_4, ic_5, bpL_6, bpL_31, tbC_121, dL_law_981, dL_law_982, dL_law_983, dL_law_984, dL_law_985, dL_law_986, dL_law_987, dL_law_988, dL_law_989, dL_law_990, dL_law_991, dL_law_992, dL_law_993, dL_law_994, dL_law_995, dL_law_996, dL_law_997]
  simp (disch := omega) only [wI_id]
  refine ⟨by omega, by omega, by omega, by omega, by omega, by omega, Eqv (some (.inl a)), h, fun v U hv => ?_⟩
  obtain ⟨hv, hI⟩ := hv
  subst hv
  exact lC_differ hc hI hg
set_option maxRecDepth 20000 in
set_option maxHeartbeats 4000000 in
theorem lA_differ (hc : cLx p s m meth c b B0 L xs D cy) {i : Int} {S : aS} (h0 : 0 ≤ i) (h6 : i + 6 ≤ L) (hI : Inv S) (hg : ∀ U, Inv U → kL p l e s m below meth c b B0 D cy Z 1074 (ll i) [] U) : kL p l e s m below meth c b B0 D cy Z 962 (ll i) [] S := by
  have hL : L ≤ 3072 := hc.2.2.2.2.2.2.2.2.2.2.2
  refine wpL_ok hc (fun pc => pc == 981) 17 962 _ [] S ?_
  unfold ll
  simp only [wpL_s, wpC_f, wpC_t, l_iaload, l_alen, l_call, l_aload_n, l_iload_n, l_iconst, l_bipush, l_iadd, l_isub, l_iand, l_if_icmp, l_goto, l_iinc, l_tsw, l_cl, l_c0, l_c1, e_wLd, e_wLd0, e_wLd1, e_wLd2, e_get1, e_get2, e_wJ, e_wJo, f40, f41, f42, f43, Nat.reduceAdd, Nat.reduceBEq, Nat.reduceMul, eq_self, true_or, or_true, true_and, e_wI2, e_wIc_eq, e_wIc_gt, e_pop0, e_pop1, e_tl0, e_tl1, ic_1, ic_2, ic_3, ic_4, ic_5, bpL_6, bpL_31, tbC_118, dL_law_962, dL_law_963, dL_law_964, dL_law_965, dL_law_966, dL_law_967, dL_law_968, dL_law_969, dL_law_970, dL_law_971, dL_law_972, dL_law_973, dL_law_974, dL_law_975, dL_law_976, dL_law_977, dL_law_978]
  simp (disch := omega) only [wI_id]
  refine ⟨by omega, by omega, by omega, by omega, by omega, by omega, ityp (fun r T => spX12_differ [.inr (.inr 245), .inl (xs (i + 1).toNat).toInt, .inl (xs (i + 2).toNat).toInt, .inl (xs (i + 3).toNat).toInt] T (Eqv r)), st_differ (eq_differ hI), fun v T hv => ?_⟩
  obtain ⟨⟨a, rfl⟩, h2⟩ := hv
  exact lB_differ hc h0 h6 h2 hg
theorem st_print {S : aS} {x0 : Int} {Q : Option aV → aS → Prop} (h : spX11_print [.inr (.inr 0), .inl x0] S Q) : spX11_print [.inr (.inr 0), .inl x0] S (ityp Q) := by
  unfold spX11_print at h ⊢
  simp only [ityp_i]
  exact h
theorem jL_1023 : jt 1023 51 = some 1074 := rfl
theorem lC_print (hc : cLx p s m meth c b B0 L xs D cy) {i a : Int} {U : aS} (hI : Inv U) (hg : ∀ U, Inv U → kL p l e s m below meth c b B0 D cy Z 1074 (ll i) [] U) : kL p l e s m below meth c b B0 D cy Z 1023 (ll i) [.inl a, .inl a] U := by
  refine wpL_go hc (fun pc => true) 0 dL_law_1023 ?_
  simp only [wpL_s, l_if_icmp, e_wIc_eq, jL_1023]
  exact ⟨fun _ => hg U hI, fun z => absurd trivial z⟩
set_option maxRecDepth 20000 in
set_option maxHeartbeats 4000000 in
theorem lB_print (hc : cLx p s m meth c b B0 L xs D cy) {i a : Int} {T : aS} (h0 : 0 ≤ i) (h6 : i + 6 ≤ L) (h : spX12_print [.inr (.inr 245), .inl (xs (i + 1).toNat).toInt] T (Eqv (some (.inl a)))) (hg : ∀ U, Inv U → kL p l e s m below meth c b B0 D cy Z 1074 (ll i) [] U) : kL p l e s m below meth c b B0 D cy Z 1014 (ll i) [.inl a] T := by
  have hL : L ≤ 3072 := hc.2.2.2.2.2.2.2.2.2.2.2
  refine wpL_ok hc (fun pc => pc == 1023) 7 1014 _ [.inl a] T ?_
  unfold ll
  simp only [wpL_s, wpC_f, wpC_t, l_iaload, l_alen, l_call, l_aload_n, l_iload_n, l_iconst, l_bipush, l_iadd, l_isub, l_iand, l_if_icmp, l_goto, l_iinc, l_tsw, l_cl, l_c0, l_c1, e_wLd, e_wLd0, e_wLd1, e_wLd2, e_get1, e_get2, e_wJ, e_wJo, f40, f41, f42, f43, Nat.reduceAdd, Nat.reduceBEq, Nat.reduceMul, eq_self, true_or, or_true, true_and, e_wI2, e_wIc_eq, e_wIc_gt, e_pop0, e_pop1, e_tl0, e_tl1, ic_1, ic_2, ic_3, ic_4, ic_5, bpL_6, bpL_31, tbC_125, dL_law_1014, dL_law_1015, dL_law_1016, dL_law_1017, dL_law_1018, dL_law_1019, dL_law_1020]
  simp (disch := omega) only [wI_id]
  refine ⟨by omega, by omega, Eqv (some (.inl a)), h, fun v U hv => ?_⟩
  obtain ⟨hv, hI⟩ := hv
  subst hv
  exact lC_print hc hI hg
set_option maxRecDepth 20000 in
set_option maxHeartbeats 4000000 in
theorem lA_print (hc : cLx p s m meth c b B0 L xs D cy) {i : Int} {S : aS} (h0 : 0 ≤ i) (h6 : i + 6 ≤ L) (hI : Inv S) (hg : ∀ U, Inv U → kL p l e s m below meth c b B0 D cy Z 1074 (ll i) [] U) : kL p l e s m below meth c b B0 D cy Z 1005 (ll i) [] S := by
  have hL : L ≤ 3072 := hc.2.2.2.2.2.2.2.2.2.2.2
  refine wpL_ok hc (fun pc => pc == 1014) 7 1005 _ [] S ?_
  unfold ll
  simp only [wpL_s, wpC_f, wpC_t, l_iaload, l_alen, l_call, l_aload_n, l_iload_n, l_iconst, l_bipush, l_iadd, l_isub, l_iand, l_if_icmp, l_goto, l_iinc, l_tsw, l_cl, l_c0, l_c1, e_wLd, e_wLd0, e_wLd1, e_wLd2, e_get1, e_get2, e_wJ, e_wJo, f40, f41, f42, f43, Nat.reduceAdd, Nat.reduceBEq, Nat.reduceMul, eq_self, true_or, or_true, true_and, e_wI2, e_wIc_eq, e_wIc_gt, e_pop0, e_pop1, e_tl0, e_tl1, ic_1, ic_2, ic_3, ic_4, ic_5, bpL_6, bpL_31, tbC_122, dL_law_1005, dL_law_1006, dL_law_1007, dL_law_1008, dL_law_1009, dL_law_1010, dL_law_1011]
  simp (disch := omega) only [wI_id]
  refine ⟨by omega, by omega, ityp (fun r T => spX12_print [.inr (.inr 245), .inl (xs (i + 1).toNat).toInt] T (Eqv r)), st_print (eq_print hI), fun v T hv => ?_⟩
  obtain ⟨⟨a, rfl⟩, h2⟩ := hv
  exact lB_print hc h0 h6 h2 hg
theorem st_octet {S : aS} {x0 : Int} {Q : Option aV → aS → Prop} (h : spX11_octet [.inr (.inr 0), .inl x0] S Q) : spX11_octet [.inr (.inr 0), .inl x0] S (ityp Q) := by
  unfold spX11_octet at h ⊢
  simp only [ityp_i]
  exact h
theorem jL_1046 : jt 1046 28 = some 1074 := rfl
theorem lC_octet (hc : cLx p s m meth c b B0 L xs D cy) {i a : Int} {U : aS} (hI : Inv U) (hg : ∀ U, Inv U → kL p l e s m below meth c b B0 D cy Z 1074 (ll i) [] U) : kL p l e s m below meth c b B0 D cy Z 1046 (ll i) [.inl a, .inl a] U := by
  refine wpL_go hc (fun pc => true) 0 dL_law_1046 ?_
  simp only [wpL_s, l_if_icmp, e_wIc_eq, jL_1046]
  exact ⟨fun _ => hg U hI, fun z => absurd trivial z⟩
set_option maxRecDepth 20000 in
set_option maxHeartbeats 4000000 in
theorem lB_octet (hc : cLx p s m meth c b B0 L xs D cy) {i a : Int} {T : aS} (h0 : 0 ≤ i) (h6 : i + 6 ≤ L) (h : spX12_octet [.inr (.inr 245), .inl (xs (i + 1).toNat).toInt] T (Eqv (some (.inl a)))) (hg : ∀ U, Inv U → kL p l e s m below meth c b B0 D cy Z 1074 (ll i) [] U) : kL p l e s m below meth c b B0 D cy Z 1037 (ll i) [.inl a] T := by
  have hL : L ≤ 3072 := hc.2.2.2.2.2.2.2.2.2.2.2
  refine wpL_ok hc (fun pc => pc == 1046) 7 1037 _ [.inl a] T ?_
  unfold ll
  simp only [wpL_s, wpC_f, wpC_t, l_iaload, l_alen, l_call, l_aload_n, l_iload_n, l_iconst, l_bipush, l_iadd, l_isub, l_iand, l_if_icmp, l_goto, l_iinc, l_tsw, l_cl, l_c0, l_c1, e_wLd, e_wLd0, e_wLd1, e_wLd2, e_get1, e_get2, e_wJ, e_wJo, f40, f41, f42, f43, Nat.reduceAdd, Nat.reduceBEq, Nat.reduceMul, eq_self, true_or, or_true, true_and, e_wI2, e_wIc_eq, e_wIc_gt, e_pop0, e_pop1, e_tl0, e_tl1, ic_1, ic_2, ic_3, ic_4, ic_5, bpL_6, bpL_31, tbC_129, dL_law_1037, dL_law_1038, dL_law_1039, dL_law_1040, dL_law_1041, dL_law_1042, dL_law_1043]
  simp (disch := omega) only [wI_id]
  refine ⟨by omega, by omega, Eqv (some (.inl a)), h, fun v U hv => ?_⟩
  obtain ⟨hv, hI⟩ := hv
  subst hv
  exact lC_octet hc hI hg
set_option maxRecDepth 20000 in
set_option maxHeartbeats 4000000 in
theorem lA_octet (hc : cLx p s m meth c b B0 L xs D cy) {i : Int} {S : aS} (h0 : 0 ≤ i) (h6 : i + 6 ≤ L) (hI : Inv S) (hg : ∀ U, Inv U → kL p l e s m below meth c b B0 D cy Z 1074 (ll i) [] U) : kL p l e s m below meth c b B0 D cy Z 1028 (ll i) [] S := by
  have hL : L ≤ 3072 := hc.2.2.2.2.2.2.2.2.2.2.2
  refine wpL_ok hc (fun pc => pc == 1037) 7 1028 _ [] S ?_
  unfold ll
  simp only [wpL_s, wpC_f, wpC_t, l_iaload, l_alen, l_call, l_aload_n, l_iload_n, l_iconst, l_bipush, l_iadd, l_isub, l_iand, l_if_icmp, l_goto, l_iinc, l_tsw, l_cl, l_c0, l_c1, e_wLd, e_wLd0, e_wLd1, e_wLd2, e_get1, e_get2, e_wJ, e_wJo, f40, f41, f42, f43, Nat.reduceAdd, Nat.reduceBEq, Nat.reduceMul, eq_self, true_or, or_true, true_and, e_wI2, e_wIc_eq, e_wIc_gt, e_pop0, e_pop1, e_tl0, e_tl1, ic_1, ic_2, ic_3, ic_4, ic_5, bpL_6, bpL_31, tbC_126, dL_law_1028, dL_law_1029, dL_law_1030, dL_law_1031, dL_law_1032, dL_law_1033, dL_law_1034]
  simp (disch := omega) only [wI_id]
  refine ⟨by omega, by omega, ityp (fun r T => spX12_octet [.inr (.inr 245), .inl (xs (i + 1).toNat).toInt] T (Eqv r)), st_octet (eq_octet hI), fun v T hv => ?_⟩
  obtain ⟨⟨a, rfl⟩, h2⟩ := hv
  exact lB_octet hc h0 h6 h2 hg
theorem st_count {S : aS} {x0 : Int} {Q : Option aV → aS → Prop} (h : spX11_count [.inr (.inr 0), .inl x0] S Q) : spX11_count [.inr (.inr 0), .inl x0] S (ityp Q) := by
  unfold spX11_count at h ⊢
  simp only [ityp_i]
  exact h
theorem jL_1069 : jt 1069 5 = some 1074 := rfl
theorem lC_count (hc : cLx p s m meth c b B0 L xs D cy) {i a : Int} {U : aS} (hI : Inv U) (hg : ∀ U, Inv U → kL p l e s m below meth c b B0 D cy Z 1074 (ll i) [] U) : kL p l e s m below meth c b B0 D cy Z 1069 (ll i) [.inl a, .inl a] U := by
  refine wpL_go hc (fun pc => true) 0 dL_law_1069 ?_
  simp only [wpL_s, l_if_icmp, e_wIc_eq, jL_1069]
  exact ⟨fun _ => hg U hI, fun z => absurd trivial z⟩
set_option maxRecDepth 20000 in
set_option maxHeartbeats 4000000 in
theorem lB_count (hc : cLx p s m meth c b B0 L xs D cy) {i a : Int} {T : aS} (h0 : 0 ≤ i) (h6 : i + 6 ≤ L) (h : spX12_count [.inr (.inr 245), .inl (xs (i + 1).toNat).toInt] T (Eqv (some (.inl a)))) (hg : ∀ U, Inv U → kL p l e s m below meth c b B0 D cy Z 1074 (ll i) [] U) : kL p l e s m below meth c b B0 D cy Z 1060 (ll i) [.inl a] T := by
  have hL : L ≤ 3072 := hc.2.2.2.2.2.2.2.2.2.2.2
  refine wpL_ok hc (fun pc => pc == 1069) 7 1060 _ [.inl a] T ?_
  unfold ll
  simp only [wpL_s, wpC_f, wpC_t, l_iaload, l_alen, l_call, l_aload_n, l_iload_n, l_iconst, l_bipush, l_iadd, l_isub, l_iand, l_if_icmp, l_goto, l_iinc, l_tsw, l_cl, l_c0, l_c1, e_wLd, e_wLd0, e_wLd1, e_wLd2, e_get1, e_get2, e_wJ, e_wJo, f40, f41, f42, f43, Nat.reduceAdd, Nat.reduceBEq, Nat.reduceMul, eq_self, true_or, or_true, true_and, e_wI2, e_wIc_eq, e_wIc_gt, e_pop0, e_pop1, e_tl0, e_tl1, ic_1, ic_2, ic_3, ic_4, ic_5, bpL_6, bpL_31, tbC_133, dL_law_1060, dL_law_1061, dL_law_1062, dL_law_1063, dL_law_1064, dL_law_1065, dL_law_1066]
  simp (disch := omega) only [wI_id]
  refine ⟨by omega, by omega, Eqv (some (.inl a)), h, fun v U hv => ?_⟩
  obtain ⟨hv, hI⟩ := hv
  subst hv
  exact lC_count hc hI hg
set_option maxRecDepth 20000 in
set_option maxHeartbeats 4000000 in
theorem lA_count (hc : cLx p s m meth c b B0 L xs D cy) {i : Int} {S : aS} (h0 : 0 ≤ i) (h6 : i + 6 ≤ L) (hI : Inv S) (hg : ∀ U, Inv U → kL p l e s m below meth c b B0 D cy Z 1074 (ll i) [] U) : kL p l e s m below meth c b B0 D cy Z 1051 (ll i) [] S := by
  have hL : L ≤ 3072 := hc.2.2.2.2.2.2.2.2.2.2.2
  refine wpL_ok hc (fun pc => pc == 1060) 7 1051 _ [] S ?_
  unfold ll
  simp only [wpL_s, wpC_f, wpC_t, l_iaload, l_alen, l_call, l_aload_n, l_iload_n, l_iconst, l_bipush, l_iadd, l_isub, l_iand, l_if_icmp, l_goto, l_iinc, l_tsw, l_cl, l_c0, l_c1, e_wLd, e_wLd0, e_wLd1, e_wLd2, e_get1, e_get2, e_wJ, e_wJo, f40, f41, f42, f43, Nat.reduceAdd, Nat.reduceBEq, Nat.reduceMul, eq_self, true_or, or_true, true_and, e_wI2, e_wIc_eq, e_wIc_gt, e_pop0, e_pop1, e_tl0, e_tl1, ic_1, ic_2, ic_3, ic_4, ic_5, bpL_6, bpL_31, tbC_130, dL_law_1051, dL_law_1052, dL_law_1053, dL_law_1054, dL_law_1055, dL_law_1056, dL_law_1057]
  simp (disch := omega) only [wI_id]
  refine ⟨by omega, by omega, ityp (fun r T => spX12_count [.inr (.inr 245), .inl (xs (i + 1).toNat).toInt] T (Eqv r)), st_count (eq_count hI (inI_toInt _)), fun v T hv => ?_⟩
  obtain ⟨⟨a, rfl⟩, h2⟩ := hv
  exact lB_count hc h0 h6 h2 hg
end LC
