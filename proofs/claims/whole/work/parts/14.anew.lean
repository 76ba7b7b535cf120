/-! DOUBLES: alike is kept by a product -/
theorem fp_nan (a : UInt64) : isNaN64 a = true ↔ FP.Core.val64 a = .nan := by
  have h := FP.Core.ne_nan a
  rw [isNaN64_iff, show (0x7fffffffffffffff : Nat) = 2 ^ 63 - 1 from rfl, Nat.and_two_pow_sub_one_eq_mod]
  constructor
  · intro q
    exact Classical.byContradiction (fun z => absurd (h.mp z) (by omega))
  · intro q
    exact Nat.lt_of_not_le (fun z => absurd q (h.mpr z))
theorem al_iff {a b : UInt64} : alike64 a b = true ↔ a = b ∨ (isNaN64 a = true ∧ isNaN64 b = true) := by
  unfold alike64
  rw [Bool.or_eq_true, Bool.and_eq_true, decide_eq_true_iff]
theorem al_symm {a b : UInt64} (h : alike64 a b = true) : alike64 b a = true := by
  rw [al_iff] at h ⊢
  rcases h with h | h
  · exact Or.inl h.symm
  · exact Or.inr ⟨h.2, h.1⟩
theorem al_trans {a b c : UInt64} (h : alike64 a b = true) (h2 : alike64 b c = true) : alike64 a c = true := by
  rw [al_iff] at h h2 ⊢
  rcases h with h | h
  · rw [h]; exact h2
  · rcases h2 with h2 | h2
    · rw [← h2]; exact Or.inr h
    · exact Or.inr ⟨h.1, h2.2⟩
theorem al_mul {m mu x y : UInt64} (h1 : alike64 m mu = true) (h2 : alike64 x y = true) : alike64 (FP.dmul m x) (FP.dmul mu y) = true := by
  rw [al_iff] at h1 h2
  have nn : ∀ {a b : UInt64}, (isNaN64 a = true ∨ isNaN64 b = true) → isNaN64 (FP.dmul a b) = true := fun h => (fp_nan _).mpr (FP.Core.dmul_nan (h.elim (fun q => Or.inl ((fp_nan _).mp q)) (fun q => Or.inr ((fp_nan _).mp q))))
  rcases h1 with h1 | h1
  · rcases h2 with h2 | h2
    · rw [h1, h2]; exact alike64_refl _
    · exact al_iff.mpr (Or.inr ⟨nn (Or.inr h2.1), nn (Or.inr h2.2)⟩)
  · exact al_iff.mpr (Or.inr ⟨nn (Or.inl h1.1), nn (Or.inl h1.2)⟩)
/-- what the evidence is times -/
def a_ev (mu : UInt64) (w : Nat → Nat) (n : Nat) : UInt64 := FP.dmul mu (FP.ddiv (FP.l2d (lN (a_sum w n))) (FP.i2d (nI n)))
/-! A ROW COPIED OVER ANOTHER -/
def fl_cpM (M : fl_M) (a b k : Nat) : fl_M := (fun x => if x = b then va_cpy (M.1 a) (M.1 b) 0 0 k else M.1 x, M.2)
theorem fl_cpM_same (M : fl_M) (a b k : Nat) : (fl_cpM M a b k).1 b = va_cpy (M.1 a) (M.1 b) 0 0 k := if_pos rfl
theorem fl_cpM_ne (M : fl_M) (a b k : Nat) {x : Nat} (h : x ≠ b) : (fl_cpM M a b k).1 x = M.1 x := if_neg h
theorem fl_eq.cp {P : Nat → Prop} {M M2 : fl_M} (h : fl_eq P M M2) (a : Nat) {b : Nat} (hc : ¬ P b) (k : Nat) : fl_eq P M (fl_cpM M2 a b k) := fun x hx => by
  have : x ≠ b := fun q => hc (q ▸ hx)
  exact ⟨(fl_cpM_ne M2 a b k this).trans (h x hx).1, (h x hx).2.1, (h x hx).2.2.1, (h x hx).2.2.2⟩
section FLC
variable {p : Program} {l : Launch} {e : Env} {R : Room} {s : State} {m : MethodId} {args : Array Value} {below : List Frame} {meth : Method} {c : Code} {H : Heap} {locs : List Loc} {cells slots : Nat} {Q : State → Prop}
variable {cc : ByteArray} {pc : Nat} {ls : Array Slot} {rest : List Value} {D : va_G} {H0 : Heap} {ad : Nat → Nat} {M : fl_M} {cI cJ cII : ClassId}
theorem fc_copy (hexec : p.tables.exec = Jvm.exec) (hb : c.code = cc) (hml : c.maxLocals = ls.size) {own : String} {index : Nat} (hown : s.vm.findClass own = some m.cls) (hlink : (Cond.methodLink own index arraycopyName).before args s = true) (hnat : (Cond.native arraycopyName).before args s = true) (hstat : (Cond.static arraycopyName).before args s = true) (hini : (Cond.initialized "java/lang/System").before args s = true)
    (hK : va_K D vwCl (fl_tys cI cJ cII) s) (hJ : fl_inj 62 ad) (hP : va_P D vwCl (fcP cI cII ad M) H) (hS : va_S (fl_A 62 ad) H0 H locs) {a b k n1 n2 : Nat} (ha : fc_len a = n1) (hbb : fc_len b = n2) (h1 : k ≤ n1) (h2 : k ≤ n2) (hk0 : 0 < k) (hk : k < 2 ^ 31)
    (hframes : 1 ≤ R.frames) (hlocals : (rest.map fun v => v.category).sum + (nativeFrameWords "java/lang/System" "arraycopy" 5 + 11) ≤ R.locals) (hdg : decode cc pc = .ok (.invokestatic index, 3))
    (kk : ∀ (H1 : Heap) (locs1 : List Loc), va_P D vwCl (fcP cI cII ad (fl_cpM M a b k)) H1 → va_S (fl_A 62 ad) H0 H1 locs1 → W p l e R s m args below meth c H1 locs1 cells slots Q (F0 m (pc + 3) ls rest)) : W p l e R s m args below meth c H locs cells slots Q (F0 m pc ls (.int (nI k) :: .int 0 :: .ref (ad b) :: .int 0 :: .ref (ad a) :: rest)) := by
  have e0 : (0 : Int32).toNatClampNeg = 0 := rfl
  have ek : (nI k).toNatClampNeg = k := nI_clamp hk
  refine va_copyi hexec hb hml hown hlink hnat hstat hini hK hP (fl_D hJ) hS a b 0 0 (fc_a cI cII ad M ha (by omega)) (fc_a cI cII ad M hbb (by omega)) rfl rfl rfl (by decide) (by decide) (nI_pos hk) (by rw [e0, ek]; omega) (by rw [e0, ek]; omega) (fun i _ => rfl) hframes hlocals hdg (fun H1 locs1 hP1 _ hS1 => kk H1 locs1 ?_ hS1)
  rw [e0, ek] at hP1
  rw [fl_setp (M' := fl_cpM M a b k)] at hP1
  · exact hP1
  · rw [(fc_arr cI cII ad (fl_cpM M a b k) hbb (by omega)).2, fl_cpM_same]
  · intro j hj
    exact fc_loc cI cII ad _ _ j (fl_cpM_ne M a b k hj) rfl rfl rfl
end FLC
theorem fc_hb_two {a b : Nat} (ha : a = 15 ∨ a = 18) (hb : b = 15 ∨ b = 18) (h : a ≠ b) : (fc_hb a = 30 ∧ fc_hb b = 46) ∨ (fc_hb a = 46 ∧ fc_hb b = 30) := by
  rcases ha with rfl | rfl <;> rcases hb with rfl | rfl
  · exact absurd rfl h
  · exact Or.inl ⟨rfl, rfl⟩
  · exact Or.inr ⟨rfl, rfl⟩
  · exact absurd rfl h
/-- the cells that a drawing anew leaves alone, but for the draws -/
def fc_PA (c : Nat) : Prop := c < 8 ∨ (9 ≤ c ∧ c ≤ 12) ∨ (19 ≤ c ∧ c < 30)
/-- what becoming the picked rows changes, so far -/
def fc_PX (M : fl_M) (c : Nat) : Prop := c ≠ M.2.2.2 8 10 ∧ c ≠ M.2.2.2 8 11 ∧ ¬ (fc_hb (M.2.2.2 8 12) ≤ c ∧ c < fc_hb (M.2.2.2 8 12) + 16)
def fc_BP (M : fl_M) (sp : Nat) (st og : Nat → Nat) (hi : Nat → Nat → Nat) (i : Nat) (M3 : fl_M) : Prop := fl_row (M3.1 (M.2.2.2 8 10)) (fun k => st (og k)) i 6 ∧ fl_row (M3.1 (M.2.2.2 8 11)) (fun _ => 1) i 1000001 ∧ (∀ k, k < i → fl_row (M3.1 (fc_hb (M.2.2.2 8 12) + k)) (hi (og k)) (sp + 1) 6) ∧ fl_eq (fc_PX M) M M3
theorem fc_BP_s {M M3 : fl_M} {sp n i : Nat} {st og : Nat → Nat} {hi : Nat → Nat → Nat} (hsw : fc_sw (M.2.2.2 8)) (hn : n ≤ 16) (hin : i < n) (hol : ∀ k, k < n → og k < n) (hst : fl_row (M.1 (M.2.2.2 8 7)) st n 6) (hhi : ∀ k, k < n → fl_row (M.1 (fc_hb (M.2.2.2 8 9) + k)) (hi k) (sp + 1) 6) (h : fc_BP M sp st og hi i M3) :
    fc_BP M sp st og hi (i + 1) (fl_cpM (fl_sI (fl_sI M3 (M.2.2.2 8 10) i (nI (st (og i)))) (M.2.2.2 8 11) i 1) (fc_hb (M.2.2.2 8 9) + og i) (fc_hb (M.2.2.2 8 12) + i) (sp + 1)) := by
  obtain ⟨g1, g2, g3, g4⟩ := h
  have s1 := hsw.s1
  have s2 := hsw.s2
  have s3 := hsw.s3
  have hb := fc_hb_two s3.1 s3.2.1 s3.2.2
  have ho := hol i hin
  refine ⟨?_, ?_, ?_, ?_⟩
  · rw [fl_cpM_ne _ _ _ _ (by omega), fl_sI_ne _ _ _ _ (by omega), fl_sI_same]
    exact g1.push rfl (hst _ ho).2
  · rw [fl_cpM_ne _ _ _ _ (by omega), fl_sI_same, fl_sI_ne _ _ _ _ (by omega)]
    exact fl_row.push (v := 1) g2 rfl (by decide)
  · intro k hk
    by_cases e : k = i
    · subst e
      rw [fl_cpM_same]
      intro j hj
      rw [sb_cpy0 hj, fl_sI_ne _ _ _ _ (by omega), fl_sI_ne _ _ _ _ (by omega), (g4 (fc_hb (M.2.2.2 8 9) + og k) (by unfold fc_PX; omega)).1]
      exact hhi _ ho j hj
    · rw [fl_cpM_ne _ _ _ _ (by omega), fl_sI_ne _ _ _ _ (by omega), fl_sI_ne _ _ _ _ (by omega)]
      exact g3 k (by omega)
  · refine ((g4.sI ?_ _ _).sI ?_ _ _).cp _ ?_ _
    · exact fun q => q.1 rfl
    · exact fun q => q.2.1 rfl
    · unfold fc_PX
      omega
/-- the memory after all rows have been exchanged -/
abbrev fc_swq (M : fl_M) : fl_M := fl_sR (fl_sR (fc_swp M) 8 9 ((fc_swp M).2.2.2 8 12)) 8 12 ((fc_swp M).2.2.2 8 9)
theorem fc_BP_R {r : a_R} {M M3 : fl_M} {og : Nat → Nat} (h : fc_R r M) (hB : fc_BP M (r_sp r) (r_st r) og (r_hi r) (r_n r) M3) (hog : fl_row (M.1 12) og (r_n r) 16) (han : r_an r + 1 < 2 ^ 30) (kp : Option Nat) (hkp : ∀ k, kp = some k → k < r_n r) (z : Int32) (hz : z = a_oI kp (-1000009)) (M4 : fl_M) (hM4 : M4 = fl_sI (fl_sI (fc_swq M3) 8 5 z) 8 4 (nI (r_an r + 1)) ∨ (M4 = fl_sI (fc_swq M3) 8 4 (nI (r_an r + 1)) ∧ M.1 8 5 = z)) :
    fc_R (r_n r, r_sp r, r_an r + 1, kp, r_mu r, (fun k => r_st r (og k)), (fun _ => 1), (fun k => r_hi r (og k)), og) M4 := by
  obtain ⟨⟨h1, h2⟩, ⟨h3, h4⟩, ⟨h5, h6⟩, ⟨h7, h8⟩, h9, h10, h11, h12, h13, h14⟩ := h
  obtain ⟨g1, g2, g3, g4⟩ := hB
  have s1 := h10.s1
  have s2 := h10.s2
  have s3 := h10.s3
  have hb := fc_hb_two s3.1 s3.2.1 s3.2.2
  have e8 := g4 8 (by unfold fc_PX; omega)
  have eR : M3.2.2.2 8 = M.2.2.2 8 := e8.2.2.2
  have keep : ∀ c, c ≠ 8 → M4.1 c = M3.1 c := fun c hc => by
    rcases hM4 with q | q
    · rw [q, fl_sI_ne _ _ _ _ hc, fl_sI_ne _ _ _ _ hc]; rfl
    · rw [q.1, fl_sI_ne _ _ _ _ hc]; rfl
  have q2 : M4.1 8 2 = nI (r_n r) := by
    rcases hM4 with q | q
    · rw [q]; show M3.1 8 2 = _; rw [e8.1]; exact h2
    · rw [q.1]; show M3.1 8 2 = _; rw [e8.1]; exact h2
  have q3 : M4.1 8 3 = nI (r_sp r) := by
    rcases hM4 with q | q
    · rw [q]; show M3.1 8 3 = _; rw [e8.1]; exact h4
    · rw [q.1]; show M3.1 8 3 = _; rw [e8.1]; exact h4
  have q4 : M4.1 8 4 = nI (r_an r + 1) := by
    rcases hM4 with q | q
    · rw [q]; rfl
    · rw [q.1]; rfl
  have q5 : M4.1 8 5 = z := by
    rcases hM4 with q | q
    · rw [q]; rfl
    · rw [q.1]; show M3.1 8 5 = _; rw [e8.1]; exact q.2
  have q6 : M4.2.2.1 8 = M.2.2.1 8 := by
    rcases hM4 with q | q
    · rw [q]; exact e8.2.2.1
    · rw [q.1]; exact e8.2.2.1
  have qR : M4.2.2.2 8 = (fc_swq M3).2.2.2 8 := by
    rcases hM4 with q | q
    · rw [q]; rfl
    · rw [q.1]; rfl
  have w7 : M4.2.2.2 8 7 = M.2.2.2 8 10 := by rw [qR]; show M3.2.2.2 8 10 = _; rw [eR]
  have w8 : M4.2.2.2 8 8 = M.2.2.2 8 11 := by rw [qR]; show M3.2.2.2 8 11 = _; rw [eR]
  have w9 : M4.2.2.2 8 9 = M.2.2.2 8 12 := by rw [qR]; show M3.2.2.2 8 12 = _; rw [eR]
  have w10 : M4.2.2.2 8 10 = M.2.2.2 8 7 := by rw [qR]; show M3.2.2.2 8 7 = _; rw [eR]
  have w11 : M4.2.2.2 8 11 = M.2.2.2 8 8 := by rw [qR]; show M3.2.2.2 8 8 = _; rw [eR]
  have w12 : M4.2.2.2 8 12 = M.2.2.2 8 9 := by rw [qR]; show M3.2.2.2 8 9 = _; rw [eR]
  refine ⟨⟨h1, q2⟩, ⟨h3, q3⟩, ⟨han, q4⟩, ⟨by rw [q5]; exact hz, hkp⟩, by rw [q6]; exact h9, ?_, ?_, ?_, ?_, ?_⟩
  · unfold fc_sw at h10 ⊢
    rw [w7, w8, w9, w10, w11, w12]
    omega
  · rw [w7, keep _ (by omega)]; exact g1
  · rw [w8, keep _ (by omega)]; exact g2
  · intro k hk
    have hk' : k < r_n r := hk
    rw [w9, keep _ (by omega)]; exact g3 k hk'
  · intro _
    rw [keep 12 (by decide), (g4 12 (by unfold fc_PX; omega)).1]; exact hog
theorem fc_R.mu {r : a_R} {M : fl_M} (h : fc_R r M) {x mu : UInt64} (hx : alike64 x mu = true) : fc_R (r_n r, r_sp r, r_an r, r_kp r, mu, r_st r, r_wt r, r_hi r, r_og r) (fl_sG M 8 x) := by
  obtain ⟨h1, h3, h5, h7, h9, h10, h11, h12, h13, h14⟩ := h
  exact ⟨h1, h3, h5, h7, hx, h10, h11, h12, h13, h14⟩
theorem fc_R.og {r : a_R} {M M2 : fl_M} (h : fc_R r M) (he : fl_eq (fun c => c ≠ 12) M M2) {og : Nat → Nat} (ho : fl_row (M2.1 12) og (r_n r) 16) : fc_R (r_n r, r_sp r, r_an r, r_kp r, r_mu r, r_st r, r_wt r, r_hi r, og) M2 := by
  obtain ⟨⟨h1, h2⟩, ⟨h3, h4⟩, ⟨h5, h6⟩, ⟨h7, h8⟩, h9, h10, h11, h12, h13, h14⟩ := h
  have s1 := h10.s1
  have s2 := h10.s2
  have e8 := he 8 (by decide)
  refine ⟨⟨h1, by rw [e8.1]; exact h2⟩, ⟨h3, by rw [e8.1]; exact h4⟩, ⟨h5, by rw [e8.1]; exact h6⟩, ⟨by rw [e8.1]; exact h7, h8⟩, by rw [e8.2.2.1]; exact h9, by rw [e8.2.2.2]; exact h10, ?_, ?_, ?_, fun _ => ho⟩
  · rw [e8.2.2.2, (he (M.2.2.2 8 7) (by omega)).1]; exact h11
  · rw [e8.2.2.2, (he (M.2.2.2 8 8) (by omega)).1]; exact h12
  · intro k hk
    have hb := fc_hb_in (M.2.2.2 8 9) k (Nat.lt_of_lt_of_le hk h1)
    rw [e8.2.2.2, (he (fc_hb (M.2.2.2 8 9) + k) (by omega)).1]; exact h13 k hk
theorem fc_R.W {r : a_R} {M : fl_M} (h : fc_R r M) (hn : 0 < r_n r) : fc_W (r_n r) (r_kp r) (r_wt r) M := ⟨⟨hn, h.1.1, h.1.2⟩, h.2.2.2.1, h.2.2.2.2.2.1.s2.1, h.2.2.2.2.2.2.2.1⟩
def a_kp (kp : Option Nat) (og : Nat → Nat) (n : Nat) : Option Nat := match kp with
  | none => none
  | some k => a_find og k n
def a_rA (r : a_R) (t : Nat → Nat) : a_R := (r_n r, r_sp r, r_an r + 1, a_kp (r_kp r) (a_ord t (r_n r)) (r_n r), a_ev (r_mu r) (r_wt r) (r_n r), (fun k => r_st r (a_ord t (r_n r) k)), (fun _ => 1), (fun k => r_hi r (a_ord t (r_n r) k)), a_ord t (r_n r))
/-- drawn anew by a way -/
def a_anew (way : Nat) (d : a_D) (r : a_R) : Int32 × a_D × a_R := if a_sum (r_wt r) (r_n r) = 0 then (-1000004, d, r) else (nI (a_unl (a_picks way (r_kp r) (r_n r) (r_wt r) d).1 (r_n r)), (a_picks way (r_kp r) (r_n r) (r_wt r) d).2, a_rA r (a_picks way (r_kp r) (r_n r) (r_wt r) d).1)
def fc_PC (c : Nat) : Prop := c < 6 ∨ c = 7 ∨ c = 9 ∨ (19 ≤ c ∧ c < 30)
