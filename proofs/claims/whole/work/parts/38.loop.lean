/-! THE LAW'S LOOP -/
theorem lh_d4 : yL_history.cls ≠ "java/lang/invoke/MethodHandle" ∧ yL_history.cls ≠ "java/lang/invoke/VarHandle" ∧ (parseMethodDescriptor yL_history.desc).map (fun d => d.parameters.length) = some 4 := by decide +kernel
theorem lp_ld {p : Program} {l : Launch} {e : Env} {R : Room} {s : State} {m : MethodId} {args : Array Value} {below : List Frame} {meth : Method} {c : Code} {H : Heap} {locs : List Loc} {cells slots : Nat} {Q : State → Prop} {cc : ByteArray} {pc : Nat} {ls : Array Slot} {rest : List Value} {H0 : Heap} {A : Nat → Prop} (hexec : p.tables.exec = Jvm.exec) (hb : c.code = cc) {b L : Nat} {xs : Nat → Int32} (hX : va_X b L xs s H0) (hbl : b < H0.size) (hbA : ¬ A b) (hS : va_S A H0 H locs) {i : Int32} (k : Nat) (hi : i = nI k) (hk : k < L) (hL : L ≤ 2048) (hdg : decode cc pc = .ok (.iaload, 1))
    (kk : W p l e R s m args below meth c H locs cells slots Q (F0 m (pc + 1) ls (.int (xs k) :: rest))) : W p l e R s m args below meth c H locs cells slots Q (F0 m pc ls (.int i :: .ref b :: rest)) := by
  subst hi
  refine va_sld hexec hb hX hbl hbA hS (vp_in_nI hk (by omega)) hdg ?_
  rw [nI_clamp (by omega)]
  exact kk
theorem lp_gt {L j : Nat} (hL : L ≤ 2048) (hj : 4 * j ≤ 2048) : nI L - 4 < nI (4 * j) ↔ L < 4 * j + 4 := by
  have h1 : (nI L).toInt = L := nI_toInt (by omega)
  have h2 : (nI (4 * j)).toInt = (4 * j : Nat) := nI_toInt (by omega)
  have h3 : (nI L - 4).toInt = (L : Int) - 4 := by
    rw [Int32.toInt_sub, h1]
    show ((L : Int) - 4).bmod (2 ^ 32) = (L : Int) - 4
    rw [Int.bmod_eq_of_le_mul_two] <;> omega
  rw [Int32.lt_iff_toInt_lt, h3, h2]
  omega
set_option maxHeartbeats 8000000 in
set_option maxRecDepth 100000 in
theorem lw_loop {p : Program} {e : Env} {s : State} {m : MethodId} {below : List Frame} {meth : Method} {c : Code} (l : Launch) (hlt : l.stackTraces = false) {b L : Nat} {xs : Nat → Int32} (hL : L ≤ 2048) (C0 : lw_At p s m meth c b L xs) {D : va_G} {cI cJ cII : ClassId} (hK : va_K D vwCl (fl_tys cI cJ cII) s) (hN : ci_N s) {sa : Nat} (hTh : hw_T sa s) (hZh : hw_Z (fun q : Nat => s.heap.size ≤ q) s s.heap) {ad am : Nat → Nat} {o : Nat} (hC : lm_C s.heap.size ad am o) : ∀ (f j : Nat) (α : a_A) (Mc Mm : fl_M) (fo : Nat → Int64) (d0 : Drawn), L + 1 ≤ 4 * j + f → 4 * j ≤ L → r_an α.2.2 ≤ j → fc_A α Mc → fm_A α Mm → s.drawn.sameBut d0 lw_cs → ∀ (H : Heap) (locs : List Loc), lm_P D cI cJ cII ad am o fo Mc Mm H → va_S (fun q : Nat => s.heap.size ≤ q) s.heap H locs → ∀ ls : Array Slot, lv_has ls 9 [(0, .ref b), (1, .ref (ad 0)), (2, .ref (am 0)), (3, .ref o), (4, .int (nI (4 * j)))] → W p l e room_1 (s.setDrawn d0) m #[Value.ref b] below meth c H locs (78 + j) (2615 + 6 * j) (lw_Z below #[Value.ref b] s) (F0 m 23 ls []) := by
  obtain ⟨hx, hb, hr, hml, hown, hts9, hX, hbl, hlocks, hgv⟩ := id C0
  have hts0 : ∀ w ∈ wsL_law, w.before #[Value.ref b] s = true := fun w h => hts9 w (wsL_law_in w h)
  have hbA : ¬ (fun q : Nat => s.heap.size ≤ q) b := Nat.not_le.mpr hbl
  intro f
  induction f with
  | zero =>
    intro j α Mc Mm fo d0 hf hj
    omega
  | succ f ih =>
    intro j α Mc Mm fo d0 hf hj hra hcA hmA hd0 H1 locs hP hS ls hl
    have hts := dr_words hts0 d0
    have hKd : va_K D vwCl (fl_tys cI cJ cII) (s.setDrawn d0) := hK
    have hNd : fl_N (s.setDrawn d0) := hN.1.same rfl
    have hXd : va_X b L xs (s.setDrawn d0) s.heap := hX
    have h41 : (Cond.constantLong RL 41 4294967295).before #[Value.ref b] (s.setDrawn d0) = true := dr_words hts9 d0 _ (by decide +kernel)
    have han : r_an α.2.2 + 1 < 2 ^ 30 := by omega
    have hrc : 78 + j + 0 ≤ room_1.cells := by show 78 + j + 0 ≤ 603072; omega
    have hrs : 2615 + 6 * j + 0 ≤ room_1.slots := by show 2615 + 6 * j + 0 ≤ 7207017; omega
    have hrc6 : 78 + j + 1 ≤ room_1.cells := by show 78 + j + 1 ≤ 603072; omega
    have hrs6 : 2615 + 6 * j + 6 ≤ room_1.slots := by show 2615 + 6 * j + 6 ≤ 7207017; omega
    refine lv_iload hx hb dL_law_23 (lv_at hl 4 rfl) ?_
    refine lv_aload_n hx hb dL_law_25 rfl (lv_at hl 0 rfl) ?_
    refine va_slen (A := (fun q : Nat => s.heap.size ≤ q)) hx hb hXd hbl hbA hS dL_law_26 ?_
    refine lv_iconst (v := 4) hx hb dL_law_27 (by decide) ?_
    refine lv_isub hx hb dL_law_28 ?_
    refine lv_icmp_gt (tgt := 834) hx hb dL_law_29 (by decide) (fun _ => ?_) (fun hg => ?_)
    · refine lv_iconst (v := 1) hx hb dL_law_834 (by decide) ?_
      refine va_forget hS.2.2 ?_
      refine hw_wd (k := 603072) (n := 7207017) (by omega) (by omega) ?_
      exact lw_ret hd0 hx hb hr hlocks dL_law_835
    · have hj4 : 4 * (j + 1) ≤ L := by
        have hq : ¬ L < 4 * j + 4 := fun q => hg ((lp_gt hL (by omega)).mpr q)
        omega
      have KB : ∀ (α : a_A) (Mc Mm : fl_M) (fo : Nat → Int64) (d0 : Drawn), r_an α.2.2 ≤ j + 1 → fc_A α Mc → fm_A α Mm → s.drawn.sameBut d0 lw_cs → ∀ (H : Heap) (locs : List Loc), lm_P D cI cJ cII ad am o fo Mc Mm H → va_S (fun q : Nat => s.heap.size ≤ q) s.heap H locs → ∀ ls : Array Slot, lv_has ls 9 [(0, .ref b), (1, .ref (ad 0)), (2, .ref (am 0)), (3, .ref o), (4, .int (nI (4 * j)))] → W p l e room_1 (s.setDrawn d0) m #[Value.ref b] below meth c H locs (78 + (j + 1)) (2615 + 6 * (j + 1)) (lw_Z below #[Value.ref b] s) (F0 m 828 ls []) := by
        intro α Mc Mm fo d0 hra hcA hmA hd0 H locs hP hS ls hl
        refine lv_iinc (v := nI (4 * (j + 1))) (lv' := [(4, .int (nI (4 * (j + 1)))), (0, .ref b), (1, .ref (ad 0)), (2, .ref (am 0)), (3, .ref o)]) hx hb dL_law_828 hl (k := 4) rfl (by show nI (4 * j) + nI 4 = _; exact nI_add _ _) (by decide) rfl (fun ls hl => ?_)
        refine lv_goto (tgt := 23) hx hb dL_law_831 (by decide) ?_
        exact ih (j + 1) α Mc Mm fo d0 (by omega) hj4 hra hcA hmA hd0 H locs hP hS ls (lv_sub hl [1, 2, 3, 4, 0] rfl)
      refine lv_aload_n hx hb dL_law_32 rfl (lv_at hl 0 rfl) ?_
      refine lv_iload hx hb dL_law_33 (lv_at hl 4 rfl) ?_
      refine lp_ld (A := (fun q : Nat => s.heap.size ≤ q)) hx hb hXd hbl hbA hS (4 * j) rfl (by omega) hL dL_law_35 ?_
      refine lv_bipush (v := 31) hx hb dL_law_36 (by decide) ?_
      refine lv_iand hx hb dL_law_38 ?_
      generalize xs (4 * j) &&& 31 = v
      by_cases hv : v.toInt < 0 ∨ 18 < v.toInt
      · refine lv_tableOut (tgt := 828) hx hb dL_law_39 hv (by decide) ?_
        refine hw_wd (k := 78 + (j + 1)) (n := 2615 + 6 * (j + 1)) (by omega) (by omega) ?_
        exact KB α Mc Mm fo d0 (Nat.le_succ_of_le hra) hcA hmA hd0 H1 locs hP hS ls hl
      · have h18 : v.toInt = 0 ∨ v.toInt = 1 ∨ v.toInt = 2 ∨ v.toInt = 3 ∨ v.toInt = 4 ∨ v.toInt = 5 ∨ v.toInt = 6 ∨ v.toInt = 7 ∨ v.toInt = 8 ∨ v.toInt = 9 ∨ v.toInt = 10 ∨ v.toInt = 11 ∨ v.toInt = 12 ∨ v.toInt = 13 ∨ v.toInt = 14 ∨ v.toInt = 15 ∨ v.toInt = 16 ∨ v.toInt = 17 ∨ v.toInt = 18 := by omega
        rcases h18 with hk | hk | hk | hk | hk | hk | hk | hk | hk | hk | hk | hk | hk | hk | hk | hk | hk | hk | hk
        · refine lv_tableIn (off := 89) (tgt := 128) hx hb dL_law_39 (by omega) (by omega) (by rw [hk]; rfl) (by decide) ?_
          refine lv_aload_n hx hb dL_law_128 rfl (lv_at hl 1 rfl) ?_
          refine lv_aload_n hx hb dL_law_129 rfl (lv_at hl 0 rfl) ?_
          refine lv_iload hx hb dL_law_130 (lv_at hl 4 rfl) ?_
          refine lv_iconst (v := 1) hx hb dL_law_132 (by decide) ?_
          refine lv_iadd hx hb dL_law_133 ?_
          refine fl_ti (y := nI (4 * j + 1)) (by show nI (4 * j) + nI 1 = nI (4 * j + 1); exact nI_add _ _) ?_
          refine lp_ld (A := (fun q : Nat => s.heap.size ≤ q)) hx hb hXd hbl hbA hS (4 * j + 1) rfl (by omega) hL dL_law_134 ?_
          refine lv_aload_n hx hb dL_law_135 rfl (lv_at hl 0 rfl) ?_
          refine lv_iload hx hb dL_law_136 (lv_at hl 4 rfl) ?_
          refine lv_iconst (v := 2) hx hb dL_law_138 (by decide) ?_
          refine lv_iadd hx hb dL_law_139 ?_
          refine fl_ti (y := nI (4 * j + 2)) (by show nI (4 * j) + nI 2 = nI (4 * j + 2); exact nI_add _ _) ?_
          refine lp_ld (A := (fun q : Nat => s.heap.size ≤ q)) hx hb hXd hbl hbA hS (4 * j + 2) rfl (by omega) hL dL_law_140 ?_
          refine va_calli (va_runV (As := [.int (xs (4 * j + 1)), .int (xs (4 * j + 2))]) (rest := []) ⟨hx, hb, hml, hown, hts⟩ (c_X4_start l hC.1 Mc α hcA (xs (4 * j + 1)) (xs (4 * j + 2))) (cwV 2 hts gL_law_X4_start rfl rfl rfl (by decide +kernel) ⟨(Nat.le_of_ble_eq_true rfl), (Nat.le_of_ble_eq_true rfl)⟩) ⟨fl_blind, va_recv hKd hP.1 (ci := 6) (q0 := 0) rfl (fl_at (by decide) rfl), fl_pre hP.1 hKd hNd⟩ rfl rfl hl.1 rfl (lv_room (Nat.le_of_ble_eq_true rfl)) dL_law_141 ⟨hrc, hrs⟩) hS (fun z _ h => hC.c h) (fun z h => hC.c h) (fun r141 M141 t H1 locs ht hvm hw hB hz1 hk1 hS => ?_)
          have hB1 : va_P D vwCl (fcP cI cII ad M141) H1 := by rw [← ht]; exact hB
          have hP141 := lm_P.c hC hP hB1 hk1
          clear hB hB1 hk1 hz1 hvm ht t
          obtain ⟨hr141, hi141⟩ := hw
          refine lv_aload_n hx hb dL_law_144 rfl (lv_at hl 2 rfl) ?_
          refine lv_aload_n hx hb dL_law_145 rfl (lv_at hl 0 rfl) ?_
          refine lv_iload hx hb dL_law_146 (lv_at hl 4 rfl) ?_
          refine lv_iconst (v := 1) hx hb dL_law_148 (by decide) ?_
          refine lv_iadd hx hb dL_law_149 ?_
          refine fl_ti (y := nI (4 * j + 1)) (by show nI (4 * j) + nI 1 = nI (4 * j + 1); exact nI_add _ _) ?_
          refine lp_ld (A := (fun q : Nat => s.heap.size ≤ q)) hx hb hXd hbl hbA hS (4 * j + 1) rfl (by omega) hL dL_law_150 ?_
          refine lv_aload_n hx hb dL_law_151 rfl (lv_at hl 0 rfl) ?_
          refine lv_iload hx hb dL_law_152 (lv_at hl 4 rfl) ?_
          refine lv_iconst (v := 2) hx hb dL_law_154 (by decide) ?_
          refine lv_iadd hx hb dL_law_155 ?_
          refine fl_ti (y := nI (4 * j + 2)) (by show nI (4 * j) + nI 2 = nI (4 * j + 2); exact nI_add _ _) ?_
          refine lp_ld (A := (fun q : Nat => s.heap.size ≤ q)) hx hb hXd hbl hbA hS (4 * j + 2) rfl (by omega) hL dL_law_156 ?_
          refine va_calli (va_runV (As := [.int (xs (4 * j + 1)), .int (xs (4 * j + 2))]) (rest := [.int (r141)]) ⟨hx, hb, hml, hown, hts⟩ (c_X5_start l hC.2.1 Mm α hmA (xs (4 * j + 1)) (xs (4 * j + 2))) (cwV 2 hts gL_law_X5_start rfl rfl rfl (by decide +kernel) ⟨(Nat.le_of_ble_eq_true rfl), (Nat.le_of_ble_eq_true rfl)⟩) ⟨fl_blind, va_recv hKd hP141.2.1 (ci := 7) (q0 := 0) rfl (fl_at (by decide) rfl), fl_pre hP141.2.1 hKd hNd⟩ rfl rfl hl.1 rfl (lv_room (Nat.le_of_ble_eq_true rfl)) dL_law_157 ⟨hrc, hrs⟩) hS (fun z _ h => hC.m h) (fun z h => hC.m h) (fun r157 M157 t H1 locs ht hvm hw hB hz1 hk1 hS => ?_)
          have hB1 : va_P D vwCl (fmP cI cJ am M157) H1 := by rw [← ht]; exact hB
          have hP157 := lm_P.m hC hP141 hB1 hk1
          clear hB hB1 hk1 hz1 hvm ht t
          obtain ⟨hr157, hi157⟩ := hw
          refine lv_icmp_eq (tgt := 828) hx hb dL_law_160 (by decide) (fun _ => ?_) (fun h => absurd (hr141.trans hr157.symm) h)
          refine hw_wd (k := 78 + (j + 1)) (n := 2615 + 6 * (j + 1)) (by omega) (by omega) ?_
          exact KB (o_start α (xs (4 * j + 1)) (xs (4 * j + 2))).2 M141 M157 fo d0 (Nat.le_trans (an_start α (xs (4 * j + 1)) (xs (4 * j + 2))) (Nat.succ_le_succ hra)) hi141 hi157 hd0 H1 locs hP157 hS ls (lv_sub hl [0, 1, 2, 3, 4] rfl)
        · refine lv_tableIn (off := 126) (tgt := 165) hx hb dL_law_39 (by omega) (by omega) (by rw [hk]; rfl) (by decide) ?_
          refine lv_aload_n hx hb dL_law_165 rfl (lv_at hl 1 rfl) ?_
          refine lv_aload_n hx hb dL_law_166 rfl (lv_at hl 0 rfl) ?_
          refine lv_iload hx hb dL_law_167 (lv_at hl 4 rfl) ?_
          refine lv_iconst (v := 1) hx hb dL_law_169 (by decide) ?_
          refine lv_iadd hx hb dL_law_170 ?_
          refine fl_ti (y := nI (4 * j + 1)) (by show nI (4 * j) + nI 1 = nI (4 * j + 1); exact nI_add _ _) ?_
          refine lp_ld (A := (fun q : Nat => s.heap.size ≤ q)) hx hb hXd hbl hbA hS (4 * j + 1) rfl (by omega) hL dL_law_171 ?_
          refine lv_aload_n hx hb dL_law_172 rfl (lv_at hl 0 rfl) ?_
          refine lv_iload hx hb dL_law_173 (lv_at hl 4 rfl) ?_
          refine lv_iconst (v := 2) hx hb dL_law_175 (by decide) ?_
          refine lv_iadd hx hb dL_law_176 ?_
          refine fl_ti (y := nI (4 * j + 2)) (by show nI (4 * j) + nI 2 = nI (4 * j + 2); exact nI_add _ _) ?_
          refine lp_ld (A := (fun q : Nat => s.heap.size ≤ q)) hx hb hXd hbl hbA hS (4 * j + 2) rfl (by omega) hL dL_law_177 ?_
          refine lv_aload_n hx hb dL_law_178 rfl (lv_at hl 0 rfl) ?_
          refine lv_iload hx hb dL_law_179 (lv_at hl 4 rfl) ?_
          refine lv_iconst (v := 3) hx hb dL_law_181 (by decide) ?_
          refine lv_iadd hx hb dL_law_182 ?_
          refine fl_ti (y := nI (4 * j + 3)) (by show nI (4 * j) + nI 3 = nI (4 * j + 3); exact nI_add _ _) ?_
          refine lp_ld (A := (fun q : Nat => s.heap.size ≤ q)) hx hb hXd hbl hbA hS (4 * j + 3) rfl (by omega) hL dL_law_183 ?_
          refine va_calli (va_runV (As := [.int (xs (4 * j + 1)), .int (xs (4 * j + 2)), .int (xs (4 * j + 3))]) (rest := []) ⟨hx, hb, hml, hown, hts⟩ (c_X4_move l hC.1 Mc α hcA (xs (4 * j + 1)) (xs (4 * j + 2)) (xs (4 * j + 3))) (cwV 3 hts gL_law_X4_move rfl rfl rfl (by decide +kernel) ⟨(Nat.le_of_ble_eq_true rfl), (Nat.le_of_ble_eq_true rfl)⟩) ⟨fl_blind, va_recv hKd hP.1 (ci := 6) (q0 := 0) rfl (fl_at (by decide) rfl), fl_pre hP.1 hKd hNd⟩ rfl rfl hl.1 rfl (lv_room (Nat.le_of_ble_eq_true rfl)) dL_law_184 ⟨hrc, hrs⟩) hS (fun z _ h => hC.c h) (fun z h => hC.c h) (fun r184 M184 t H1 locs ht hvm hw hB hz1 hk1 hS => ?_)
          have hB1 : va_P D vwCl (fcP cI cII ad M184) H1 := by rw [← ht]; exact hB
          have hP184 := lm_P.c hC hP hB1 hk1
          clear hB hB1 hk1 hz1 hvm ht t
          obtain ⟨hr184, hi184⟩ := hw
          refine lv_aload_n hx hb dL_law_187 rfl (lv_at hl 2 rfl) ?_
          refine lv_aload_n hx hb dL_law_188 rfl (lv_at hl 0 rfl) ?_
          refine lv_iload hx hb dL_law_189 (lv_at hl 4 rfl) ?_
          refine lv_iconst (v := 1) hx hb dL_law_191 (by decide) ?_
          refine lv_iadd hx hb dL_law_192 ?_
          refine fl_ti (y := nI (4 * j + 1)) (by show nI (4 * j) + nI 1 = nI (4 * j + 1); exact nI_add _ _) ?_
          refine lp_ld (A := (fun q : Nat => s.heap.size ≤ q)) hx hb hXd hbl hbA hS (4 * j + 1) rfl (by omega) hL dL_law_193 ?_
          refine lv_aload_n hx hb dL_law_194 rfl (lv_at hl 0 rfl) ?_
          refine lv_iload hx hb dL_law_195 (lv_at hl 4 rfl) ?_
          refine lv_iconst (v := 2) hx hb dL_law_197 (by decide) ?_
          refine lv_iadd hx hb dL_law_198 ?_
          refine fl_ti (y := nI (4 * j + 2)) (by show nI (4 * j) + nI 2 = nI (4 * j + 2); exact nI_add _ _) ?_
          refine lp_ld (A := (fun q : Nat => s.heap.size ≤ q)) hx hb hXd hbl hbA hS (4 * j + 2) rfl (by omega) hL dL_law_199 ?_
          refine lv_aload_n hx hb dL_law_200 rfl (lv_at hl 0 rfl) ?_
          refine lv_iload hx hb dL_law_201 (lv_at hl 4 rfl) ?_
          refine lv_iconst (v := 3) hx hb dL_law_203 (by decide) ?_
          refine lv_iadd hx hb dL_law_204 ?_
          refine fl_ti (y := nI (4 * j + 3)) (by show nI (4 * j) + nI 3 = nI (4 * j + 3); exact nI_add _ _) ?_
          refine lp_ld (A := (fun q : Nat => s.heap.size ≤ q)) hx hb hXd hbl hbA hS (4 * j + 3) rfl (by omega) hL dL_law_205 ?_
          refine va_calli (va_runV (As := [.int (xs (4 * j + 1)), .int (xs (4 * j + 2)), .int (xs (4 * j + 3))]) (rest := [.int (r184)]) ⟨hx, hb, hml, hown, hts⟩ (c_X5_move l hC.2.1 Mm α hmA (xs (4 * j + 1)) (xs (4 * j + 2)) (xs (4 * j + 3))) (cwV 3 hts gL_law_X5_move rfl rfl rfl (by decide +kernel) ⟨(Nat.le_of_ble_eq_true rfl), (Nat.le_of_ble_eq_true rfl)⟩) ⟨fl_blind, va_recv hKd hP184.2.1 (ci := 7) (q0 := 0) rfl (fl_at (by decide) rfl), fl_pre hP184.2.1 hKd hNd⟩ rfl rfl hl.1 rfl (lv_room (Nat.le_of_ble_eq_true rfl)) dL_law_206 ⟨hrc, hrs⟩) hS (fun z _ h => hC.m h) (fun z h => hC.m h) (fun r206 M206 t H1 locs ht hvm hw hB hz1 hk1 hS => ?_)
          have hB1 : va_P D vwCl (fmP cI cJ am M206) H1 := by rw [← ht]; exact hB
          have hP206 := lm_P.m hC hP184 hB1 hk1
          clear hB hB1 hk1 hz1 hvm ht t
          obtain ⟨hr206, hi206⟩ := hw
          refine lv_icmp_eq (tgt := 828) hx hb dL_law_209 (by decide) (fun _ => ?_) (fun h => absurd (hr184.trans hr206.symm) h)
          refine hw_wd (k := 78 + (j + 1)) (n := 2615 + 6 * (j + 1)) (by omega) (by omega) ?_
          exact KB (o_move α (xs (4 * j + 1)) (xs (4 * j + 2)) (xs (4 * j + 3))).2 M184 M206 fo d0 (Nat.le_trans (an_move α (xs (4 * j + 1)) (xs (4 * j + 2)) (xs (4 * j + 3))) (Nat.succ_le_succ hra)) hi184 hi206 hd0 H1 locs hP206 hS ls (lv_sub hl [0, 1, 2, 3, 4] rfl)
        · refine lv_tableIn (off := 175) (tgt := 214) hx hb dL_law_39 (by omega) (by omega) (by rw [hk]; rfl) (by decide) ?_
          refine lv_aload_n hx hb dL_law_214 rfl (lv_at hl 1 rfl) ?_
          refine lv_aload_n hx hb dL_law_215 rfl (lv_at hl 0 rfl) ?_
          refine lv_iload hx hb dL_law_216 (lv_at hl 4 rfl) ?_
          refine lv_iconst (v := 1) hx hb dL_law_218 (by decide) ?_
          refine lv_iadd hx hb dL_law_219 ?_
          refine fl_ti (y := nI (4 * j + 1)) (by show nI (4 * j) + nI 1 = nI (4 * j + 1); exact nI_add _ _) ?_
          refine lp_ld (A := (fun q : Nat => s.heap.size ≤ q)) hx hb hXd hbl hbA hS (4 * j + 1) rfl (by omega) hL dL_law_220 ?_
          refine lv_aload_n hx hb dL_law_221 rfl (lv_at hl 0 rfl) ?_
          refine lv_iload hx hb dL_law_222 (lv_at hl 4 rfl) ?_
          refine lv_iconst (v := 2) hx hb dL_law_224 (by decide) ?_
          refine lv_iadd hx hb dL_law_225 ?_
          refine fl_ti (y := nI (4 * j + 2)) (by show nI (4 * j) + nI 2 = nI (4 * j + 2); exact nI_add _ _) ?_
          refine lp_ld (A := (fun q : Nat => s.heap.size ≤ q)) hx hb hXd hbl hbA hS (4 * j + 2) rfl (by omega) hL dL_law_226 ?_
          refine lv_aload_n hx hb dL_law_227 rfl (lv_at hl 0 rfl) ?_
          refine lv_iload hx hb dL_law_228 (lv_at hl 4 rfl) ?_
          refine lv_iconst (v := 3) hx hb dL_law_230 (by decide) ?_
          refine lv_iadd hx hb dL_law_231 ?_
          refine fl_ti (y := nI (4 * j + 3)) (by show nI (4 * j) + nI 3 = nI (4 * j + 3); exact nI_add _ _) ?_
          refine lp_ld (A := (fun q : Nat => s.heap.size ≤ q)) hx hb hXd hbl hbA hS (4 * j + 3) rfl (by omega) hL dL_law_232 ?_
          refine va_calli (va_runV (As := [.int (xs (4 * j + 1)), .int (xs (4 * j + 2)), .int (xs (4 * j + 3))]) (rest := []) ⟨hx, hb, hml, hown, hts⟩ (c_X4_seen l hC.1 Mc α hcA (xs (4 * j + 1)) (xs (4 * j + 2)) (xs (4 * j + 3))) (cwV 3 hts gL_law_X4_seen rfl rfl rfl (by decide +kernel) ⟨(Nat.le_of_ble_eq_true rfl), (Nat.le_of_ble_eq_true rfl)⟩) ⟨fl_blind, va_recv hKd hP.1 (ci := 6) (q0 := 0) rfl (fl_at (by decide) rfl), fl_pre hP.1 hKd hNd⟩ rfl rfl hl.1 rfl (lv_room (Nat.le_of_ble_eq_true rfl)) dL_law_233 ⟨hrc, hrs⟩) hS (fun z _ h => hC.c h) (fun z h => hC.c h) (fun r233 M233 t H1 locs ht hvm hw hB hz1 hk1 hS => ?_)
          have hB1 : va_P D vwCl (fcP cI cII ad M233) H1 := by rw [← ht]; exact hB
          have hP233 := lm_P.c hC hP hB1 hk1
          clear hB hB1 hk1 hz1 hvm ht t
          obtain ⟨hr233, hi233⟩ := hw
          refine lv_aload_n hx hb dL_law_236 rfl (lv_at hl 2 rfl) ?_
          refine lv_aload_n hx hb dL_law_237 rfl (lv_at hl 0 rfl) ?_
          refine lv_iload hx hb dL_law_238 (lv_at hl 4 rfl) ?_
          refine lv_iconst (v := 1) hx hb dL_law_240 (by decide) ?_
          refine lv_iadd hx hb dL_law_241 ?_
          refine fl_ti (y := nI (4 * j + 1)) (by show nI (4 * j) + nI 1 = nI (4 * j + 1); exact nI_add _ _) ?_
          refine lp_ld (A := (fun q : Nat => s.heap.size ≤ q)) hx hb hXd hbl hbA hS (4 * j + 1) rfl (by omega) hL dL_law_242 ?_
          refine lv_aload_n hx hb dL_law_243 rfl (lv_at hl 0 rfl) ?_
          refine lv_iload hx hb dL_law_244 (lv_at hl 4 rfl) ?_
          refine lv_iconst (v := 2) hx hb dL_law_246 (by decide) ?_
          refine lv_iadd hx hb dL_law_247 ?_
          refine fl_ti (y := nI (4 * j + 2)) (by show nI (4 * j) + nI 2 = nI (4 * j + 2); exact nI_add _ _) ?_
          refine lp_ld (A := (fun q : Nat => s.heap.size ≤ q)) hx hb hXd hbl hbA hS (4 * j + 2) rfl (by omega) hL dL_law_248 ?_
          refine lv_aload_n hx hb dL_law_249 rfl (lv_at hl 0 rfl) ?_
          refine lv_iload hx hb dL_law_250 (lv_at hl 4 rfl) ?_
          refine lv_iconst (v := 3) hx hb dL_law_252 (by decide) ?_
          refine lv_iadd hx hb dL_law_253 ?_
          refine fl_ti (y := nI (4 * j + 3)) (by show nI (4 * j) + nI 3 = nI (4 * j + 3); exact nI_add _ _) ?_
          refine lp_ld (A := (fun q : Nat => s.heap.size ≤ q)) hx hb hXd hbl hbA hS (4 * j + 3) rfl (by omega) hL dL_law_254 ?_
          refine va_calli (va_runV (As := [.int (xs (4 * j + 1)), .int (xs (4 * j + 2)), .int (xs (4 * j + 3))]) (rest := [.int (r233)]) ⟨hx, hb, hml, hown, hts⟩ (c_X5_seen l hC.2.1 Mm α hmA (xs (4 * j + 1)) (xs (4 * j + 2)) (xs (4 * j + 3))) (cwV 3 hts gL_law_X5_seen rfl rfl rfl (by decide +kernel) ⟨(Nat.le_of_ble_eq_true rfl), (Nat.le_of_ble_eq_true rfl)⟩) ⟨fl_blind, va_recv hKd hP233.2.1 (ci := 7) (q0 := 0) rfl (fl_at (by decide) rfl), fl_pre hP233.2.1 hKd hNd⟩ rfl rfl hl.1 rfl (lv_room (Nat.le_of_ble_eq_true rfl)) dL_law_255 ⟨hrc, hrs⟩) hS (fun z _ h => hC.m h) (fun z h => hC.m h) (fun r255 M255 t H1 locs ht hvm hw hB hz1 hk1 hS => ?_)
          have hB1 : va_P D vwCl (fmP cI cJ am M255) H1 := by rw [← ht]; exact hB
          have hP255 := lm_P.m hC hP233 hB1 hk1
          clear hB hB1 hk1 hz1 hvm ht t
          obtain ⟨hr255, hi255⟩ := hw
          refine lv_icmp_eq (tgt := 828) hx hb dL_law_258 (by decide) (fun _ => ?_) (fun h => absurd (hr233.trans hr255.symm) h)
          refine hw_wd (k := 78 + (j + 1)) (n := 2615 + 6 * (j + 1)) (by omega) (by omega) ?_
          exact KB (o_seen α (xs (4 * j + 1)) (xs (4 * j + 2)) (xs (4 * j + 3))).2 M233 M255 fo d0 (Nat.le_trans (an_seen α (xs (4 * j + 1)) (xs (4 * j + 2)) (xs (4 * j + 3))) (Nat.succ_le_succ hra)) hi233 hi255 hd0 H1 locs hP255 hS ls (lv_sub hl [0, 1, 2, 3, 4] rfl)
        · refine lv_tableIn (off := 224) (tgt := 263) hx hb dL_law_39 (by omega) (by omega) (by rw [hk]; rfl) (by decide) ?_
          refine lv_aload_n hx hb dL_law_263 rfl (lv_at hl 1 rfl) ?_
          refine lv_aload_n hx hb dL_law_264 rfl (lv_at hl 0 rfl) ?_
          refine lv_iload hx hb dL_law_265 (lv_at hl 4 rfl) ?_
          refine lv_iconst (v := 1) hx hb dL_law_267 (by decide) ?_
          refine lv_iadd hx hb dL_law_268 ?_
          refine fl_ti (y := nI (4 * j + 1)) (by show nI (4 * j) + nI 1 = nI (4 * j + 1); exact nI_add _ _) ?_
          refine lp_ld (A := (fun q : Nat => s.heap.size ≤ q)) hx hb hXd hbl hbA hS (4 * j + 1) rfl (by omega) hL dL_law_269 ?_
          refine lv_aload_n hx hb dL_law_270 rfl (lv_at hl 0 rfl) ?_
          refine lv_iload hx hb dL_law_271 (lv_at hl 4 rfl) ?_
          refine lv_iconst (v := 2) hx hb dL_law_273 (by decide) ?_
          refine lv_iadd hx hb dL_law_274 ?_
          refine fl_ti (y := nI (4 * j + 2)) (by show nI (4 * j) + nI 2 = nI (4 * j + 2); exact nI_add _ _) ?_
          refine lp_ld (A := (fun q : Nat => s.heap.size ≤ q)) hx hb hXd hbl hbA hS (4 * j + 2) rfl (by omega) hL dL_law_275 ?_
          refine va_calli (va_runV (As := [.int (xs (4 * j + 1)), .int (xs (4 * j + 2))]) (rest := []) ⟨hx, hb, hml, hown, hts⟩ (c_X4_named l hC.1 Mc α hcA (xs (4 * j + 1)) (xs (4 * j + 2))) (cwV 2 hts gL_law_X4_named rfl rfl rfl (by decide +kernel) ⟨(Nat.le_of_ble_eq_true rfl), (Nat.le_of_ble_eq_true rfl)⟩) ⟨fl_blind, va_recv hKd hP.1 (ci := 6) (q0 := 0) rfl (fl_at (by decide) rfl), fl_pre hP.1 hKd hNd⟩ rfl rfl hl.1 rfl (lv_room (Nat.le_of_ble_eq_true rfl)) dL_law_276 ⟨hrc, hrs⟩) hS (fun z _ h => hC.c h) (fun z h => hC.c h) (fun r276 M276 t H1 locs ht hvm hw hB hz1 hk1 hS => ?_)
          have hB1 : va_P D vwCl (fcP cI cII ad M276) H1 := by rw [← ht]; exact hB
          have hP276 := lm_P.c hC hP hB1 hk1
          clear hB hB1 hk1 hz1 hvm ht t
          obtain ⟨hr276, hi276⟩ := hw
          refine lv_aload_n hx hb dL_law_279 rfl (lv_at hl 2 rfl) ?_
          refine lv_aload_n hx hb dL_law_280 rfl (lv_at hl 0 rfl) ?_
          refine lv_iload hx hb dL_law_281 (lv_at hl 4 rfl) ?_
          refine lv_iconst (v := 1) hx hb dL_law_283 (by decide) ?_
          refine lv_iadd hx hb dL_law_284 ?_
          refine fl_ti (y := nI (4 * j + 1)) (by show nI (4 * j) + nI 1 = nI (4 * j + 1); exact nI_add _ _) ?_
          refine lp_ld (A := (fun q : Nat => s.heap.size ≤ q)) hx hb hXd hbl hbA hS (4 * j + 1) rfl (by omega) hL dL_law_285 ?_
          refine lv_aload_n hx hb dL_law_286 rfl (lv_at hl 0 rfl) ?_
          refine lv_iload hx hb dL_law_287 (lv_at hl 4 rfl) ?_
          refine lv_iconst (v := 2) hx hb dL_law_289 (by decide) ?_
          refine lv_iadd hx hb dL_law_290 ?_
          refine fl_ti (y := nI (4 * j + 2)) (by show nI (4 * j) + nI 2 = nI (4 * j + 2); exact nI_add _ _) ?_
          refine lp_ld (A := (fun q : Nat => s.heap.size ≤ q)) hx hb hXd hbl hbA hS (4 * j + 2) rfl (by omega) hL dL_law_291 ?_
          refine va_calli (va_runV (As := [.int (xs (4 * j + 1)), .int (xs (4 * j + 2))]) (rest := [.int (r276)]) ⟨hx, hb, hml, hown, hts⟩ (c_X5_named l hC.2.1 Mm α hmA (xs (4 * j + 1)) (xs (4 * j + 2))) (cwV 2 hts gL_law_X5_named rfl rfl rfl (by decide +kernel) ⟨(Nat.le_of_ble_eq_true rfl), (Nat.le_of_ble_eq_true rfl)⟩) ⟨fl_blind, va_recv hKd hP276.2.1 (ci := 7) (q0 := 0) rfl (fl_at (by decide) rfl), fl_pre hP276.2.1 hKd hNd⟩ rfl rfl hl.1 rfl (lv_room (Nat.le_of_ble_eq_true rfl)) dL_law_292 ⟨hrc, hrs⟩) hS (fun z _ h => hC.m h) (fun z h => hC.m h) (fun r292 M292 t H1 locs ht hvm hw hB hz1 hk1 hS => ?_)
          have hB1 : va_P D vwCl (fmP cI cJ am M292) H1 := by rw [← ht]; exact hB
          have hP292 := lm_P.m hC hP276 hB1 hk1
          clear hB hB1 hk1 hz1 hvm ht t
          obtain ⟨hr292, hi292⟩ := hw
          refine lv_icmp_eq (tgt := 828) hx hb dL_law_295 (by decide) (fun _ => ?_) (fun h => absurd (hr276.trans hr292.symm) h)
          refine hw_wd (k := 78 + (j + 1)) (n := 2615 + 6 * (j + 1)) (by omega) (by omega) ?_
          exact KB (o_named α (xs (4 * j + 1)) (xs (4 * j + 2))).2 M276 M292 fo d0 (Nat.le_trans (an_named α (xs (4 * j + 1)) (xs (4 * j + 2))) (Nat.succ_le_succ hra)) hi276 hi292 hd0 H1 locs hP292 hS ls (lv_sub hl [0, 1, 2, 3, 4] rfl)
        · refine lv_tableIn (off := 261) (tgt := 300) hx hb dL_law_39 (by omega) (by omega) (by rw [hk]; rfl) (by decide) ?_
          refine lv_aload_n hx hb dL_law_300 rfl (lv_at hl 1 rfl) ?_
          refine lv_aload_n hx hb dL_law_301 rfl (lv_at hl 0 rfl) ?_
          refine lv_iload hx hb dL_law_302 (lv_at hl 4 rfl) ?_
          refine lv_iconst (v := 1) hx hb dL_law_304 (by decide) ?_
          refine lv_iadd hx hb dL_law_305 ?_
          refine fl_ti (y := nI (4 * j + 1)) (by show nI (4 * j) + nI 1 = nI (4 * j + 1); exact nI_add _ _) ?_
          refine lp_ld (A := (fun q : Nat => s.heap.size ≤ q)) hx hb hXd hbl hbA hS (4 * j + 1) rfl (by omega) hL dL_law_306 ?_
          refine va_calli (va_runV (As := [.int (xs (4 * j + 1))]) (rest := []) ⟨hx, hb, hml, hown, hts⟩ (c_X4_force l hC.1 Mc α hcA (xs (4 * j + 1))) (cwV 1 hts gL_law_X4_force rfl rfl rfl (by decide +kernel) ⟨(Nat.le_of_ble_eq_true rfl), (Nat.le_of_ble_eq_true rfl)⟩) ⟨fl_blind, va_recv hKd hP.1 (ci := 6) (q0 := 0) rfl (fl_at (by decide) rfl), fl_pre hP.1 hKd hNd⟩ rfl rfl hl.1 rfl (lv_room (Nat.le_of_ble_eq_true rfl)) dL_law_307 ⟨hrc, hrs⟩) hS (fun z _ h => hC.c h) (fun z h => hC.c h) (fun r307 M307 t H1 locs ht hvm hw hB hz1 hk1 hS => ?_)
          have hB1 : va_P D vwCl (fcP cI cII ad M307) H1 := by rw [← ht]; exact hB
          have hP307 := lm_P.c hC hP hB1 hk1
          clear hB hB1 hk1 hz1 hvm ht t
          obtain ⟨hr307, hi307⟩ := hw
          refine lv_aload_n hx hb dL_law_310 rfl (lv_at hl 2 rfl) ?_
          refine lv_aload_n hx hb dL_law_311 rfl (lv_at hl 0 rfl) ?_
          refine lv_iload hx hb dL_law_312 (lv_at hl 4 rfl) ?_
          refine lv_iconst (v := 1) hx hb dL_law_314 (by decide) ?_
          refine lv_iadd hx hb dL_law_315 ?_
          refine fl_ti (y := nI (4 * j + 1)) (by show nI (4 * j) + nI 1 = nI (4 * j + 1); exact nI_add _ _) ?_
          refine lp_ld (A := (fun q : Nat => s.heap.size ≤ q)) hx hb hXd hbl hbA hS (4 * j + 1) rfl (by omega) hL dL_law_316 ?_
          refine va_calli (va_runV (As := [.int (xs (4 * j + 1))]) (rest := [.int (r307)]) ⟨hx, hb, hml, hown, hts⟩ (c_X5_force l hC.2.1 Mm α hmA (xs (4 * j + 1))) (cwV 1 hts gL_law_X5_force rfl rfl rfl (by decide +kernel) ⟨(Nat.le_of_ble_eq_true rfl), (Nat.le_of_ble_eq_true rfl)⟩) ⟨fl_blind, va_recv hKd hP307.2.1 (ci := 7) (q0 := 0) rfl (fl_at (by decide) rfl), fl_pre hP307.2.1 hKd hNd⟩ rfl rfl hl.1 rfl (lv_room (Nat.le_of_ble_eq_true rfl)) dL_law_317 ⟨hrc, hrs⟩) hS (fun z _ h => hC.m h) (fun z h => hC.m h) (fun r317 M317 t H1 locs ht hvm hw hB hz1 hk1 hS => ?_)
          have hB1 : va_P D vwCl (fmP cI cJ am M317) H1 := by rw [← ht]; exact hB
          have hP317 := lm_P.m hC hP307 hB1 hk1
          clear hB hB1 hk1 hz1 hvm ht t
          obtain ⟨hr317, hi317⟩ := hw
          refine lv_icmp_eq (tgt := 828) hx hb dL_law_320 (by decide) (fun _ => ?_) (fun h => absurd (hr307.trans hr317.symm) h)
          refine hw_wd (k := 78 + (j + 1)) (n := 2615 + 6 * (j + 1)) (by omega) (by omega) ?_
          exact KB (o_force α (xs (4 * j + 1))).2 M307 M317 fo d0 (Nat.le_trans (an_force α (xs (4 * j + 1))) (Nat.succ_le_succ hra)) hi307 hi317 hd0 H1 locs hP317 hS ls (lv_sub hl [0, 1, 2, 3, 4] rfl)
        · refine lv_tableIn (off := 286) (tgt := 325) hx hb dL_law_39 (by omega) (by omega) (by rw [hk]; rfl) (by decide) ?_
          refine lv_aload_n hx hb dL_law_325 rfl (lv_at hl 1 rfl) ?_
          refine lv_aload_n hx hb dL_law_326 rfl (lv_at hl 0 rfl) ?_
          refine lv_iload hx hb dL_law_327 (lv_at hl 4 rfl) ?_
          refine lv_iconst (v := 1) hx hb dL_law_329 (by decide) ?_
          refine lv_iadd hx hb dL_law_330 ?_
          refine fl_ti (y := nI (4 * j + 1)) (by show nI (4 * j) + nI 1 = nI (4 * j + 1); exact nI_add _ _) ?_
          refine lp_ld (A := (fun q : Nat => s.heap.size ≤ q)) hx hb hXd hbl hbA hS (4 * j + 1) rfl (by omega) hL dL_law_331 ?_
          refine lv_aload_n hx hb dL_law_332 rfl (lv_at hl 0 rfl) ?_
          refine lv_iload hx hb dL_law_333 (lv_at hl 4 rfl) ?_
          refine lv_iconst (v := 2) hx hb dL_law_335 (by decide) ?_
          refine lv_iadd hx hb dL_law_336 ?_
          refine fl_ti (y := nI (4 * j + 2)) (by show nI (4 * j) + nI 2 = nI (4 * j + 2); exact nI_add _ _) ?_
          refine lp_ld (A := (fun q : Nat => s.heap.size ≤ q)) hx hb hXd hbl hbA hS (4 * j + 2) rfl (by omega) hL dL_law_337 ?_
          refine lv_i2l hx hb dL_law_338 rfl ?_
          refine lv_bipush (v := 32) hx hb dL_law_339 (by decide) ?_
          refine lv_lshl hx hb dL_law_341 rfl ?_
          refine lv_aload_n hx hb dL_law_342 rfl (lv_at hl 0 rfl) ?_
          refine lv_iload hx hb dL_law_343 (lv_at hl 4 rfl) ?_
          refine lv_iconst (v := 3) hx hb dL_law_345 (by decide) ?_
          refine lv_iadd hx hb dL_law_346 ?_
          refine fl_ti (y := nI (4 * j + 3)) (by show nI (4 * j) + nI 3 = nI (4 * j + 3); exact nI_add _ _) ?_
          refine lp_ld (A := (fun q : Nat => s.heap.size ≤ q)) hx hb hXd hbl hbA hS (4 * j + 3) rfl (by omega) hL dL_law_347 ?_
          refine lv_i2l hx hb dL_law_348 rfl ?_
          refine lv_ldc2 (v := 4294967295) hx hb hown h41 dL_law_349 ?_
          refine lv_land hx hb dL_law_352 ?_
          refine lv_lor hx hb dL_law_353 ?_
          refine va_calli (va_runV (As := [.int (xs (4 * j + 1)), .long ((((xs (4 * j + 2)).toInt64 <<< ((32 : Int32).toInt64 &&& 63)) ||| ((xs (4 * j + 3)).toInt64 &&& 4294967295)))]) (rest := []) ⟨hx, hb, hml, hown, hts⟩ (c_X4_begin l hC.1 Mc α hcA (xs (4 * j + 1)) ((((xs (4 * j + 2)).toInt64 <<< ((32 : Int32).toInt64 &&& 63)) ||| ((xs (4 * j + 3)).toInt64 &&& 4294967295)))) (cwV 2 hts gL_law_X4_begin rfl rfl rfl (by decide +kernel) ⟨(Nat.le_of_ble_eq_true rfl), (Nat.le_of_ble_eq_true rfl)⟩) ⟨fl_blind, va_recv hKd hP.1 (ci := 6) (q0 := 0) rfl (fl_at (by decide) rfl), fl_pre hP.1 hKd hNd⟩ rfl rfl hl.1 rfl (lv_room (Nat.le_of_ble_eq_true rfl)) dL_law_354 ⟨hrc, hrs⟩) hS (fun z _ h => hC.c h) (fun z h => hC.c h) (fun r354 M354 t H1 locs ht hvm hw hB hz1 hk1 hS => ?_)
          have hB1 : va_P D vwCl (fcP cI cII ad M354) H1 := by rw [← ht]; exact hB
          have hP354 := lm_P.c hC hP hB1 hk1
          clear hB hB1 hk1 hz1 hvm ht t
          obtain ⟨hr354, hi354⟩ := hw
          refine lv_aload_n hx hb dL_law_357 rfl (lv_at hl 2 rfl) ?_
          refine lv_aload_n hx hb dL_law_358 rfl (lv_at hl 0 rfl) ?_
          refine lv_iload hx hb dL_law_359 (lv_at hl 4 rfl) ?_
          refine lv_iconst (v := 1) hx hb dL_law_361 (by decide) ?_
          refine lv_iadd hx hb dL_law_362 ?_
          refine fl_ti (y := nI (4 * j + 1)) (by show nI (4 * j) + nI 1 = nI (4 * j + 1); exact nI_add _ _) ?_
          refine lp_ld (A := (fun q : Nat => s.heap.size ≤ q)) hx hb hXd hbl hbA hS (4 * j + 1) rfl (by omega) hL dL_law_363 ?_
          refine lv_aload_n hx hb dL_law_364 rfl (lv_at hl 0 rfl) ?_
          refine lv_iload hx hb dL_law_365 (lv_at hl 4 rfl) ?_
          refine lv_iconst (v := 2) hx hb dL_law_367 (by decide) ?_
          refine lv_iadd hx hb dL_law_368 ?_
          refine fl_ti (y := nI (4 * j + 2)) (by show nI (4 * j) + nI 2 = nI (4 * j + 2); exact nI_add _ _) ?_
          refine lp_ld (A := (fun q : Nat => s.heap.size ≤ q)) hx hb hXd hbl hbA hS (4 * j + 2) rfl (by omega) hL dL_law_369 ?_
          refine lv_i2l hx hb dL_law_370 rfl ?_
          refine lv_bipush (v := 32) hx hb dL_law_371 (by decide) ?_
          refine lv_lshl hx hb dL_law_373 rfl ?_
          refine lv_aload_n hx hb dL_law_374 rfl (lv_at hl 0 rfl) ?_
          refine lv_iload hx hb dL_law_375 (lv_at hl 4 rfl) ?_
          refine lv_iconst (v := 3) hx hb dL_law_377 (by decide) ?_
          refine lv_iadd hx hb dL_law_378 ?_
          refine fl_ti (y := nI (4 * j + 3)) (by show nI (4 * j) + nI 3 = nI (4 * j + 3); exact nI_add _ _) ?_
          refine lp_ld (A := (fun q : Nat => s.heap.size ≤ q)) hx hb hXd hbl hbA hS (4 * j + 3) rfl (by omega) hL dL_law_379 ?_
          refine lv_i2l hx hb dL_law_380 rfl ?_
          refine lv_ldc2 (v := 4294967295) hx hb hown h41 dL_law_381 ?_
          refine lv_land hx hb dL_law_384 ?_
          refine lv_lor hx hb dL_law_385 ?_
          refine va_calli (va_runV (As := [.int (xs (4 * j + 1)), .long ((((xs (4 * j + 2)).toInt64 <<< ((32 : Int32).toInt64 &&& 63)) ||| ((xs (4 * j + 3)).toInt64 &&& 4294967295)))]) (rest := [.int (r354)]) ⟨hx, hb, hml, hown, hts⟩ (c_X5_begin l hC.2.1 Mm α hmA (xs (4 * j + 1)) ((((xs (4 * j + 2)).toInt64 <<< ((32 : Int32).toInt64 &&& 63)) ||| ((xs (4 * j + 3)).toInt64 &&& 4294967295)))) (cwV 2 hts gL_law_X5_begin rfl rfl rfl (by decide +kernel) ⟨(Nat.le_of_ble_eq_true rfl), (Nat.le_of_ble_eq_true rfl)⟩) ⟨fl_blind, va_recv hKd hP354.2.1 (ci := 7) (q0 := 0) rfl (fl_at (by decide) rfl), fl_pre hP354.2.1 hKd hNd⟩ rfl rfl hl.1 rfl (lv_room (Nat.le_of_ble_eq_true rfl)) dL_law_386 ⟨hrc, hrs⟩) hS (fun z _ h => hC.m h) (fun z h => hC.m h) (fun r386 M386 t H1 locs ht hvm hw hB hz1 hk1 hS => ?_)
          have hB1 : va_P D vwCl (fmP cI cJ am M386) H1 := by rw [← ht]; exact hB
          have hP386 := lm_P.m hC hP354 hB1 hk1
          clear hB hB1 hk1 hz1 hvm ht t
          obtain ⟨hr386, hi386⟩ := hw
          refine lv_icmp_eq (tgt := 828) hx hb dL_law_389 (by decide) (fun _ => ?_) (fun h => absurd (hr354.trans hr386.symm) h)
          refine hw_wd (k := 78 + (j + 1)) (n := 2615 + 6 * (j + 1)) (by omega) (by omega) ?_
          exact KB (o_begin α (xs (4 * j + 1)) ((((xs (4 * j + 2)).toInt64 <<< ((32 : Int32).toInt64 &&& 63)) ||| ((xs (4 * j + 3)).toInt64 &&& 4294967295)))).2 M354 M386 fo d0 (Nat.le_trans (an_begin α (xs (4 * j + 1)) ((((xs (4 * j + 2)).toInt64 <<< ((32 : Int32).toInt64 &&& 63)) ||| ((xs (4 * j + 3)).toInt64 &&& 4294967295)))) (Nat.succ_le_succ hra)) hi354 hi386 hd0 H1 locs hP386 hS ls (lv_sub hl [0, 1, 2, 3, 4] rfl)
        · refine lv_tableIn (off := 355) (tgt := 394) hx hb dL_law_39 (by omega) (by omega) (by rw [hk]; rfl) (by decide) ?_
          refine lv_aload_n hx hb dL_law_394 rfl (lv_at hl 1 rfl) ?_
          refine lv_aload_n hx hb dL_law_395 rfl (lv_at hl 0 rfl) ?_
          refine lv_iload hx hb dL_law_396 (lv_at hl 4 rfl) ?_
          refine lv_iconst (v := 1) hx hb dL_law_398 (by decide) ?_
          refine lv_iadd hx hb dL_law_399 ?_
          refine fl_ti (y := nI (4 * j + 1)) (by show nI (4 * j) + nI 1 = nI (4 * j + 1); exact nI_add _ _) ?_
          refine lp_ld (A := (fun q : Nat => s.heap.size ≤ q)) hx hb hXd hbl hbA hS (4 * j + 1) rfl (by omega) hL dL_law_400 ?_
          refine va_calli (va_runV (As := [.int (xs (4 * j + 1))]) (rest := []) ⟨hx, hb, hml, hown, hts⟩ (c_X4_keep l hC.1 Mc α hcA (xs (4 * j + 1))) (cwV 1 hts gL_law_X4_keep rfl rfl rfl (by decide +kernel) ⟨(Nat.le_of_ble_eq_true rfl), (Nat.le_of_ble_eq_true rfl)⟩) ⟨fl_blind, va_recv hKd hP.1 (ci := 6) (q0 := 0) rfl (fl_at (by decide) rfl), fl_pre hP.1 hKd hNd⟩ rfl rfl hl.1 rfl (lv_room (Nat.le_of_ble_eq_true rfl)) dL_law_401 ⟨hrc, hrs⟩) hS (fun z _ h => hC.c h) (fun z h => hC.c h) (fun r401 M401 t H1 locs ht hvm hw hB hz1 hk1 hS => ?_)
          have hB1 : va_P D vwCl (fcP cI cII ad M401) H1 := by rw [← ht]; exact hB
          have hP401 := lm_P.c hC hP hB1 hk1
          clear hB hB1 hk1 hz1 hvm ht t
          obtain ⟨hr401, hi401⟩ := hw
          refine lv_aload_n hx hb dL_law_404 rfl (lv_at hl 2 rfl) ?_
          refine lv_aload_n hx hb dL_law_405 rfl (lv_at hl 0 rfl) ?_
          refine lv_iload hx hb dL_law_406 (lv_at hl 4 rfl) ?_
          refine lv_iconst (v := 1) hx hb dL_law_408 (by decide) ?_
          refine lv_iadd hx hb dL_law_409 ?_
          refine fl_ti (y := nI (4 * j + 1)) (by show nI (4 * j) + nI 1 = nI (4 * j + 1); exact nI_add _ _) ?_
          refine lp_ld (A := (fun q : Nat => s.heap.size ≤ q)) hx hb hXd hbl hbA hS (4 * j + 1) rfl (by omega) hL dL_law_410 ?_
          refine va_calli (va_runV (As := [.int (xs (4 * j + 1))]) (rest := [.int (r401)]) ⟨hx, hb, hml, hown, hts⟩ (c_X5_keep l hC.2.1 Mm α hmA (xs (4 * j + 1))) (cwV 1 hts gL_law_X5_keep rfl rfl rfl (by decide +kernel) ⟨(Nat.le_of_ble_eq_true rfl), (Nat.le_of_ble_eq_true rfl)⟩) ⟨fl_blind, va_recv hKd hP401.2.1 (ci := 7) (q0 := 0) rfl (fl_at (by decide) rfl), fl_pre hP401.2.1 hKd hNd⟩ rfl rfl hl.1 rfl (lv_room (Nat.le_of_ble_eq_true rfl)) dL_law_411 ⟨hrc, hrs⟩) hS (fun z _ h => hC.m h) (fun z h => hC.m h) (fun r411 M411 t H1 locs ht hvm hw hB hz1 hk1 hS => ?_)
          have hB1 : va_P D vwCl (fmP cI cJ am M411) H1 := by rw [← ht]; exact hB
          have hP411 := lm_P.m hC hP401 hB1 hk1
          clear hB hB1 hk1 hz1 hvm ht t
          obtain ⟨hr411, hi411⟩ := hw
          refine lv_icmp_eq (tgt := 828) hx hb dL_law_414 (by decide) (fun _ => ?_) (fun h => absurd (hr401.trans hr411.symm) h)
          refine hw_wd (k := 78 + (j + 1)) (n := 2615 + 6 * (j + 1)) (by omega) (by omega) ?_
          exact KB (o_keep α (xs (4 * j + 1))).2 M401 M411 fo d0 (Nat.le_trans (an_keep α (xs (4 * j + 1))) (Nat.succ_le_succ hra)) hi401 hi411 hd0 H1 locs hP411 hS ls (lv_sub hl [0, 1, 2, 3, 4] rfl)
        · refine lv_tableIn (off := 380) (tgt := 419) hx hb dL_law_39 (by omega) (by omega) (by rw [hk]; rfl) (by decide) ?_
          refine lv_aload_n hx hb dL_law_419 rfl (lv_at hl 1 rfl) ?_
          refine lv_aload_n hx hb dL_law_420 rfl (lv_at hl 0 rfl) ?_
          refine lv_iload hx hb dL_law_421 (lv_at hl 4 rfl) ?_
          refine lv_iconst (v := 1) hx hb dL_law_423 (by decide) ?_
          refine lv_iadd hx hb dL_law_424 ?_
          refine fl_ti (y := nI (4 * j + 1)) (by show nI (4 * j) + nI 1 = nI (4 * j + 1); exact nI_add _ _) ?_
          refine lp_ld (A := (fun q : Nat => s.heap.size ≤ q)) hx hb hXd hbl hbA hS (4 * j + 1) rfl (by omega) hL dL_law_425 ?_
          refine lv_aload_n hx hb dL_law_426 rfl (lv_at hl 0 rfl) ?_
          refine lv_iload hx hb dL_law_427 (lv_at hl 4 rfl) ?_
          refine lv_iconst (v := 2) hx hb dL_law_429 (by decide) ?_
          refine lv_iadd hx hb dL_law_430 ?_
          refine fl_ti (y := nI (4 * j + 2)) (by show nI (4 * j) + nI 2 = nI (4 * j + 2); exact nI_add _ _) ?_
          refine lp_ld (A := (fun q : Nat => s.heap.size ≤ q)) hx hb hXd hbl hbA hS (4 * j + 2) rfl (by omega) hL dL_law_431 ?_
          refine va_calli (va_runV (As := [.int (xs (4 * j + 1)), .int (xs (4 * j + 2))]) (rest := []) ⟨hx, hb, hml, hown, hts⟩ (c_X4_step l hC.1 Mc α hcA (xs (4 * j + 1)) (xs (4 * j + 2))) (cwV 2 hts gL_law_X4_step rfl rfl rfl (by decide +kernel) ⟨(Nat.le_of_ble_eq_true rfl), (Nat.le_of_ble_eq_true rfl)⟩) ⟨fl_blind, va_recv hKd hP.1 (ci := 6) (q0 := 0) rfl (fl_at (by decide) rfl), fl_pre hP.1 hKd hNd⟩ rfl rfl hl.1 rfl (lv_room (Nat.le_of_ble_eq_true rfl)) dL_law_432 ⟨hrc, hrs⟩) hS (fun z _ h => hC.c h) (fun z h => hC.c h) (fun r432 M432 t H1 locs ht hvm hw hB hz1 hk1 hS => ?_)
          have hB1 : va_P D vwCl (fcP cI cII ad M432) H1 := by rw [← ht]; exact hB
          have hP432 := lm_P.c hC hP hB1 hk1
          clear hB hB1 hk1 hz1 hvm ht t
          obtain ⟨hr432, hi432⟩ := hw
          refine lv_aload_n hx hb dL_law_435 rfl (lv_at hl 2 rfl) ?_
          refine lv_aload_n hx hb dL_law_436 rfl (lv_at hl 0 rfl) ?_
          refine lv_iload hx hb dL_law_437 (lv_at hl 4 rfl) ?_
          refine lv_iconst (v := 1) hx hb dL_law_439 (by decide) ?_
          refine lv_iadd hx hb dL_law_440 ?_
          refine fl_ti (y := nI (4 * j + 1)) (by show nI (4 * j) + nI 1 = nI (4 * j + 1); exact nI_add _ _) ?_
          refine lp_ld (A := (fun q : Nat => s.heap.size ≤ q)) hx hb hXd hbl hbA hS (4 * j + 1) rfl (by omega) hL dL_law_441 ?_
          refine lv_aload_n hx hb dL_law_442 rfl (lv_at hl 0 rfl) ?_
          refine lv_iload hx hb dL_law_443 (lv_at hl 4 rfl) ?_
          refine lv_iconst (v := 2) hx hb dL_law_445 (by decide) ?_
          refine lv_iadd hx hb dL_law_446 ?_
          refine fl_ti (y := nI (4 * j + 2)) (by show nI (4 * j) + nI 2 = nI (4 * j + 2); exact nI_add _ _) ?_
          refine lp_ld (A := (fun q : Nat => s.heap.size ≤ q)) hx hb hXd hbl hbA hS (4 * j + 2) rfl (by omega) hL dL_law_447 ?_
          refine va_calli (va_runV (As := [.int (xs (4 * j + 1)), .int (xs (4 * j + 2))]) (rest := [.int (r432)]) ⟨hx, hb, hml, hown, hts⟩ (c_X5_step l hC.2.1 Mm α hmA (xs (4 * j + 1)) (xs (4 * j + 2))) (cwV 2 hts gL_law_X5_step rfl rfl rfl (by decide +kernel) ⟨(Nat.le_of_ble_eq_true rfl), (Nat.le_of_ble_eq_true rfl)⟩) ⟨fl_blind, va_recv hKd hP432.2.1 (ci := 7) (q0 := 0) rfl (fl_at (by decide) rfl), fl_pre hP432.2.1 hKd hNd⟩ rfl rfl hl.1 rfl (lv_room (Nat.le_of_ble_eq_true rfl)) dL_law_448 ⟨hrc, hrs⟩) hS (fun z _ h => hC.m h) (fun z h => hC.m h) (fun r448 M448 t H1 locs ht hvm hw hB hz1 hk1 hS => ?_)
          have hB1 : va_P D vwCl (fmP cI cJ am M448) H1 := by rw [← ht]; exact hB
          have hP448 := lm_P.m hC hP432 hB1 hk1
          clear hB hB1 hk1 hz1 hvm ht t
          obtain ⟨hr448, hi448⟩ := hw
          refine lv_icmp_eq (tgt := 828) hx hb dL_law_451 (by decide) (fun _ => ?_) (fun h => absurd (hr432.trans hr448.symm) h)
          refine hw_wd (k := 78 + (j + 1)) (n := 2615 + 6 * (j + 1)) (by omega) (by omega) ?_
          exact KB (o_step α (xs (4 * j + 1)) (xs (4 * j + 2))).2 M432 M448 fo d0 (Nat.le_trans (an_step α (xs (4 * j + 1)) (xs (4 * j + 2))) (Nat.succ_le_succ hra)) hi432 hi448 hd0 H1 locs hP448 hS ls (lv_sub hl [0, 1, 2, 3, 4] rfl)
        · refine lv_tableIn (off := 417) (tgt := 456) hx hb dL_law_39 (by omega) (by omega) (by rw [hk]; rfl) (by decide) ?_
          refine lv_aload_n hx hb dL_law_456 rfl (lv_at hl 1 rfl) ?_
          refine lv_aload_n hx hb dL_law_457 rfl (lv_at hl 0 rfl) ?_
          refine lv_iload hx hb dL_law_458 (lv_at hl 4 rfl) ?_
          refine lv_iconst (v := 1) hx hb dL_law_460 (by decide) ?_
          refine lv_iadd hx hb dL_law_461 ?_
          refine fl_ti (y := nI (4 * j + 1)) (by show nI (4 * j) + nI 1 = nI (4 * j + 1); exact nI_add _ _) ?_
          refine lp_ld (A := (fun q : Nat => s.heap.size ≤ q)) hx hb hXd hbl hbA hS (4 * j + 1) rfl (by omega) hL dL_law_462 ?_
          refine va_calliD hd0 (va_runV_D (As := [.int (xs (4 * j + 1))]) (rest := []) ⟨hx, hb, hml, hown, hts⟩ (c_X4_again l hC.1 Mc α hcA han (xs (4 * j + 1))) (cwV 1 hts gL_law_X4_again rfl rfl rfl (by decide +kernel) ⟨(Nat.le_of_ble_eq_true rfl), (Nat.le_of_ble_eq_true rfl)⟩) ⟨fl_blind, va_recv hKd hP.1 (ci := 6) (q0 := 0) rfl (fl_at (by decide) rfl), fl_pre hP.1 hKd hNd⟩ rfl rfl hl.1 rfl (lv_room (Nat.le_of_ble_eq_true rfl)) dL_law_463 ⟨hrc, hrs⟩) hS (fun z _ h => hC.c h) (fun z h => hC.c h) (fun r463 M463 t H1 locs ht hvm hw hB hz1 hk1 hS d463 hd463 => ?_)
          have hB1 : va_P D vwCl (fcP cI cII ad M463) H1 := by rw [← ht]; exact hB
          have hP463 := lm_P.c hC hP hB1 hk1
          clear hB hB1 hk1 hz1 hvm ht t
          obtain ⟨hr463, hi463⟩ := hw
          have hts := dr_words hts0 d463
          have hKd : va_K D vwCl (fl_tys cI cJ cII) (s.setDrawn d463) := hK
          have hNd : fl_N (s.setDrawn d463) := hN.1.same rfl
          have hXd : va_X b L xs (s.setDrawn d463) s.heap := hX
          refine lv_aload_n hx hb dL_law_466 rfl (lv_at hl 2 rfl) ?_
          refine lv_aload_n hx hb dL_law_467 rfl (lv_at hl 0 rfl) ?_
          refine lv_iload hx hb dL_law_468 (lv_at hl 4 rfl) ?_
          refine lv_iconst (v := 1) hx hb dL_law_470 (by decide) ?_
          refine lv_iadd hx hb dL_law_471 ?_
          refine fl_ti (y := nI (4 * j + 1)) (by show nI (4 * j) + nI 1 = nI (4 * j + 1); exact nI_add _ _) ?_
          refine lp_ld (A := (fun q : Nat => s.heap.size ≤ q)) hx hb hXd hbl hbA hS (4 * j + 1) rfl (by omega) hL dL_law_472 ?_
          refine va_calliD hd463 (va_runV_D (As := [.int (xs (4 * j + 1))]) (rest := [.int (r463)]) ⟨hx, hb, hml, hown, hts⟩ (c_X5_again l hC.2.1 Mm α hmA han (xs (4 * j + 1))) (cwV 1 hts gL_law_X5_again rfl rfl rfl (by decide +kernel) ⟨(Nat.le_of_ble_eq_true rfl), (Nat.le_of_ble_eq_true rfl)⟩) ⟨fl_blind, va_recv hKd hP463.2.1 (ci := 7) (q0 := 0) rfl (fl_at (by decide) rfl), fl_pre hP463.2.1 hKd hNd⟩ rfl rfl hl.1 rfl (lv_room (Nat.le_of_ble_eq_true rfl)) dL_law_473 ⟨hrc, hrs⟩) hS (fun z _ h => hC.m h) (fun z h => hC.m h) (fun r473 M473 t H1 locs ht hvm hw hB hz1 hk1 hS d473 hd473 => ?_)
          have hB1 : va_P D vwCl (fmP cI cJ am M473) H1 := by rw [← ht]; exact hB
          have hP473 := lm_P.m hC hP463 hB1 hk1
          clear hB hB1 hk1 hz1 hvm ht t
          obtain ⟨hr473, hi473⟩ := hw
          have hts := dr_words hts0 d473
          have hKd : va_K D vwCl (fl_tys cI cJ cII) (s.setDrawn d473) := hK
          have hNd : fl_N (s.setDrawn d473) := hN.1.same rfl
          have hXd : va_X b L xs (s.setDrawn d473) s.heap := hX
          refine lv_icmp_eq (tgt := 828) hx hb dL_law_476 (by decide) (fun _ => ?_) (fun h => absurd (hr463.trans hr473.symm) h)
          refine hw_wd (k := 78 + (j + 1)) (n := 2615 + 6 * (j + 1)) (by omega) (by omega) ?_
          exact KB (o_again α (xs (4 * j + 1))).2 M463 M473 fo d473 (Nat.le_trans (an_again α (xs (4 * j + 1))) (Nat.succ_le_succ hra)) hi463 hi473 hd473 H1 locs hP473 hS ls (lv_sub hl [0, 1, 2, 3, 4] rfl)
        · refine lv_tableIn (off := 442) (tgt := 481) hx hb dL_law_39 (by omega) (by omega) (by rw [hk]; rfl) (by decide) ?_
          refine lv_aload_n hx hb dL_law_481 rfl (lv_at hl 1 rfl) ?_
          refine lv_aload_n hx hb dL_law_482 rfl (lv_at hl 0 rfl) ?_
          refine lv_iload hx hb dL_law_483 (lv_at hl 4 rfl) ?_
          refine lv_iconst (v := 1) hx hb dL_law_485 (by decide) ?_
          refine lv_iadd hx hb dL_law_486 ?_
          refine fl_ti (y := nI (4 * j + 1)) (by show nI (4 * j) + nI 1 = nI (4 * j + 1); exact nI_add _ _) ?_
          refine lp_ld (A := (fun q : Nat => s.heap.size ≤ q)) hx hb hXd hbl hbA hS (4 * j + 1) rfl (by omega) hL dL_law_487 ?_
          refine lv_aload_n hx hb dL_law_488 rfl (lv_at hl 0 rfl) ?_
          refine lv_iload hx hb dL_law_489 (lv_at hl 4 rfl) ?_
          refine lv_iconst (v := 2) hx hb dL_law_491 (by decide) ?_
          refine lv_iadd hx hb dL_law_492 ?_
          refine fl_ti (y := nI (4 * j + 2)) (by show nI (4 * j) + nI 2 = nI (4 * j + 2); exact nI_add _ _) ?_
          refine lp_ld (A := (fun q : Nat => s.heap.size ≤ q)) hx hb hXd hbl hbA hS (4 * j + 2) rfl (by omega) hL dL_law_493 ?_
          refine va_calliD hd0 (va_runV_D (As := [.int (xs (4 * j + 1)), .int (xs (4 * j + 2))]) (rest := []) ⟨hx, hb, hml, hown, hts⟩ (c_X4_rule l hC.1 Mc α hcA han (xs (4 * j + 1)) (xs (4 * j + 2))) (cwV 2 hts gL_law_X4_rule rfl rfl rfl (by decide +kernel) ⟨(Nat.le_of_ble_eq_true rfl), (Nat.le_of_ble_eq_true rfl)⟩) ⟨fl_blind, va_recv hKd hP.1 (ci := 6) (q0 := 0) rfl (fl_at (by decide) rfl), fl_pre hP.1 hKd hNd⟩ rfl rfl hl.1 rfl (lv_room (Nat.le_of_ble_eq_true rfl)) dL_law_494 ⟨hrc, hrs⟩) hS (fun z _ h => hC.c h) (fun z h => hC.c h) (fun r494 M494 t H1 locs ht hvm hw hB hz1 hk1 hS d494 hd494 => ?_)
          have hB1 : va_P D vwCl (fcP cI cII ad M494) H1 := by rw [← ht]; exact hB
          have hP494 := lm_P.c hC hP hB1 hk1
          clear hB hB1 hk1 hz1 hvm ht t
          obtain ⟨hr494, hi494⟩ := hw
          have hts := dr_words hts0 d494
          have hKd : va_K D vwCl (fl_tys cI cJ cII) (s.setDrawn d494) := hK
          have hNd : fl_N (s.setDrawn d494) := hN.1.same rfl
          have hXd : va_X b L xs (s.setDrawn d494) s.heap := hX
          refine lv_aload_n hx hb dL_law_497 rfl (lv_at hl 2 rfl) ?_
          refine lv_aload_n hx hb dL_law_498 rfl (lv_at hl 0 rfl) ?_
          refine lv_iload hx hb dL_law_499 (lv_at hl 4 rfl) ?_
          refine lv_iconst (v := 1) hx hb dL_law_501 (by decide) ?_
          refine lv_iadd hx hb dL_law_502 ?_
          refine fl_ti (y := nI (4 * j + 1)) (by show nI (4 * j) + nI 1 = nI (4 * j + 1); exact nI_add _ _) ?_
          refine lp_ld (A := (fun q : Nat => s.heap.size ≤ q)) hx hb hXd hbl hbA hS (4 * j + 1) rfl (by omega) hL dL_law_503 ?_
          refine lv_aload_n hx hb dL_law_504 rfl (lv_at hl 0 rfl) ?_
          refine lv_iload hx hb dL_law_505 (lv_at hl 4 rfl) ?_
          refine lv_iconst (v := 2) hx hb dL_law_507 (by decide) ?_
          refine lv_iadd hx hb dL_law_508 ?_
          refine fl_ti (y := nI (4 * j + 2)) (by show nI (4 * j) + nI 2 = nI (4 * j + 2); exact nI_add _ _) ?_
          refine lp_ld (A := (fun q : Nat => s.heap.size ≤ q)) hx hb hXd hbl hbA hS (4 * j + 2) rfl (by omega) hL dL_law_509 ?_
          refine va_calliD hd494 (va_runV_D (As := [.int (xs (4 * j + 1)), .int (xs (4 * j + 2))]) (rest := [.int (r494)]) ⟨hx, hb, hml, hown, hts⟩ (c_X5_rule l hC.2.1 Mm α hmA han (xs (4 * j + 1)) (xs (4 * j + 2))) (cwV 2 hts gL_law_X5_rule rfl rfl rfl (by decide +kernel) ⟨(Nat.le_of_ble_eq_true rfl), (Nat.le_of_ble_eq_true rfl)⟩) ⟨fl_blind, va_recv hKd hP494.2.1 (ci := 7) (q0 := 0) rfl (fl_at (by decide) rfl), fl_pre hP494.2.1 hKd hNd⟩ rfl rfl hl.1 rfl (lv_room (Nat.le_of_ble_eq_true rfl)) dL_law_510 ⟨hrc, hrs⟩) hS (fun z _ h => hC.m h) (fun z h => hC.m h) (fun r510 M510 t H1 locs ht hvm hw hB hz1 hk1 hS d510 hd510 => ?_)
          have hB1 : va_P D vwCl (fmP cI cJ am M510) H1 := by rw [← ht]; exact hB
          have hP510 := lm_P.m hC hP494 hB1 hk1
          clear hB hB1 hk1 hz1 hvm ht t
          obtain ⟨hr510, hi510⟩ := hw
          have hts := dr_words hts0 d510
          have hKd : va_K D vwCl (fl_tys cI cJ cII) (s.setDrawn d510) := hK
          have hNd : fl_N (s.setDrawn d510) := hN.1.same rfl
          have hXd : va_X b L xs (s.setDrawn d510) s.heap := hX
          refine lv_icmp_eq (tgt := 828) hx hb dL_law_513 (by decide) (fun _ => ?_) (fun h => absurd (hr494.trans hr510.symm) h)
          refine hw_wd (k := 78 + (j + 1)) (n := 2615 + 6 * (j + 1)) (by omega) (by omega) ?_
          exact KB (o_rule α (xs (4 * j + 1)) (xs (4 * j + 2))).2 M494 M510 fo d510 (Nat.le_trans (an_rule α (xs (4 * j + 1)) (xs (4 * j + 2))) (Nat.succ_le_succ hra)) hi494 hi510 hd510 H1 locs hP510 hS ls (lv_sub hl [0, 1, 2, 3, 4] rfl)
        · refine lv_tableIn (off := 479) (tgt := 518) hx hb dL_law_39 (by omega) (by omega) (by rw [hk]; rfl) (by decide) ?_
          refine lv_aload_n hx hb dL_law_518 rfl (lv_at hl 1 rfl) ?_
          refine lv_aload_n hx hb dL_law_519 rfl (lv_at hl 0 rfl) ?_
          refine lv_iload hx hb dL_law_520 (lv_at hl 4 rfl) ?_
          refine lv_iconst (v := 1) hx hb dL_law_522 (by decide) ?_
          refine lv_iadd hx hb dL_law_523 ?_
          refine fl_ti (y := nI (4 * j + 1)) (by show nI (4 * j) + nI 1 = nI (4 * j + 1); exact nI_add _ _) ?_
          refine lp_ld (A := (fun q : Nat => s.heap.size ≤ q)) hx hb hXd hbl hbA hS (4 * j + 1) rfl (by omega) hL dL_law_524 ?_
          refine va_calli (va_runV (As := [.int (xs (4 * j + 1))]) (rest := []) ⟨hx, hb, hml, hown, hts⟩ (c_X4_from l hC.1 Mc α hcA (xs (4 * j + 1))) (cwV 1 hts gL_law_X4_from rfl rfl rfl (by decide +kernel) ⟨(Nat.le_of_ble_eq_true rfl), (Nat.le_of_ble_eq_true rfl)⟩) ⟨fl_blind, va_recv hKd hP.1 (ci := 6) (q0 := 0) rfl (fl_at (by decide) rfl), fl_pre hP.1 hKd hNd⟩ rfl rfl hl.1 rfl (lv_room (Nat.le_of_ble_eq_true rfl)) dL_law_525 ⟨hrc, hrs⟩) hS (fun z _ h => hC.c h) (fun z h => hC.c h) (fun r525 M525 t H1 locs ht hvm hw hB hz1 hk1 hS => ?_)
          have hB1 : va_P D vwCl (fcP cI cII ad M525) H1 := by rw [← ht]; exact hB
          have hP525 := lm_P.c hC hP hB1 hk1
          clear hB hB1 hk1 hz1 hvm ht t
          obtain ⟨hr525, hi525⟩ := hw
          have hi525 : fc_A α M525 := by rw [hi525]; exact hcA
          refine lv_aload_n hx hb dL_law_528 rfl (lv_at hl 2 rfl) ?_
          refine lv_aload_n hx hb dL_law_529 rfl (lv_at hl 0 rfl) ?_
          refine lv_iload hx hb dL_law_530 (lv_at hl 4 rfl) ?_
          refine lv_iconst (v := 1) hx hb dL_law_532 (by decide) ?_
          refine lv_iadd hx hb dL_law_533 ?_
          refine fl_ti (y := nI (4 * j + 1)) (by show nI (4 * j) + nI 1 = nI (4 * j + 1); exact nI_add _ _) ?_
          refine lp_ld (A := (fun q : Nat => s.heap.size ≤ q)) hx hb hXd hbl hbA hS (4 * j + 1) rfl (by omega) hL dL_law_534 ?_
          refine va_calli (va_runV (As := [.int (xs (4 * j + 1))]) (rest := [.int (r525)]) ⟨hx, hb, hml, hown, hts⟩ (c_X5_from l hC.2.1 Mm α hmA (xs (4 * j + 1))) (cwV 1 hts gL_law_X5_from rfl rfl rfl (by decide +kernel) ⟨(Nat.le_of_ble_eq_true rfl), (Nat.le_of_ble_eq_true rfl)⟩) ⟨fl_blind, va_recv hKd hP525.2.1 (ci := 7) (q0 := 0) rfl (fl_at (by decide) rfl), fl_pre hP525.2.1 hKd hNd⟩ rfl rfl hl.1 rfl (lv_room (Nat.le_of_ble_eq_true rfl)) dL_law_535 ⟨hrc, hrs⟩) hS (fun z _ h => hC.m h) (fun z h => hC.m h) (fun r535 M535 t H1 locs ht hvm hw hB hz1 hk1 hS => ?_)
          have hB1 : va_P D vwCl (fmP cI cJ am M535) H1 := by rw [← ht]; exact hB
          have hP535 := lm_P.m hC hP525 hB1 hk1
          clear hB hB1 hk1 hz1 hvm ht t
          obtain ⟨hr535, hi535⟩ := hw
          have hi535 : fm_A α M535 := by rw [hi535]; exact hmA
          refine lv_icmp_eq (tgt := 828) hx hb dL_law_538 (by decide) (fun _ => ?_) (fun h => absurd (hr525.trans hr535.symm) h)
          refine hw_wd (k := 78 + (j + 1)) (n := 2615 + 6 * (j + 1)) (by omega) (by omega) ?_
          exact KB α M525 M535 fo d0 (Nat.le_succ_of_le hra) hi525 hi535 hd0 H1 locs hP535 hS ls (lv_sub hl [0, 1, 2, 3, 4] rfl)
        · refine lv_tableIn (off := 504) (tgt := 543) hx hb dL_law_39 (by omega) (by omega) (by rw [hk]; rfl) (by decide) ?_
          refine lv_aload_n hx hb dL_law_543 rfl (lv_at hl 1 rfl) ?_
          refine lv_aload_n hx hb dL_law_544 rfl (lv_at hl 0 rfl) ?_
          refine lv_iload hx hb dL_law_545 (lv_at hl 4 rfl) ?_
          refine lv_iconst (v := 1) hx hb dL_law_547 (by decide) ?_
          refine lv_iadd hx hb dL_law_548 ?_
          refine fl_ti (y := nI (4 * j + 1)) (by show nI (4 * j) + nI 1 = nI (4 * j + 1); exact nI_add _ _) ?_
          refine lp_ld (A := (fun q : Nat => s.heap.size ≤ q)) hx hb hXd hbl hbA hS (4 * j + 1) rfl (by omega) hL dL_law_549 ?_
          refine lv_aload_n hx hb dL_law_550 rfl (lv_at hl 0 rfl) ?_
          refine lv_iload hx hb dL_law_551 (lv_at hl 4 rfl) ?_
          refine lv_iconst (v := 2) hx hb dL_law_553 (by decide) ?_
          refine lv_iadd hx hb dL_law_554 ?_
          refine fl_ti (y := nI (4 * j + 2)) (by show nI (4 * j) + nI 2 = nI (4 * j + 2); exact nI_add _ _) ?_
          refine lp_ld (A := (fun q : Nat => s.heap.size ≤ q)) hx hb hXd hbl hbA hS (4 * j + 2) rfl (by omega) hL dL_law_555 ?_
          refine va_calli (va_runV (As := [.int (xs (4 * j + 1)), .int (xs (4 * j + 2))]) (rest := []) ⟨hx, hb, hml, hown, hts⟩ (c_X4_row l hC.1 Mc α hcA (xs (4 * j + 1)) (xs (4 * j + 2))) (cwV 2 hts gL_law_X4_row rfl rfl rfl (by decide +kernel) ⟨(Nat.le_of_ble_eq_true rfl), (Nat.le_of_ble_eq_true rfl)⟩) ⟨fl_blind, va_recv hKd hP.1 (ci := 6) (q0 := 0) rfl (fl_at (by decide) rfl), fl_pre hP.1 hKd hNd⟩ rfl rfl hl.1 rfl (lv_room (Nat.le_of_ble_eq_true rfl)) dL_law_556 ⟨hrc, hrs⟩) hS (fun z _ h => hC.c h) (fun z h => hC.c h) (fun r556 M556 t H1 locs ht hvm hw hB hz1 hk1 hS => ?_)
          have hB1 : va_P D vwCl (fcP cI cII ad M556) H1 := by rw [← ht]; exact hB
          have hP556 := lm_P.c hC hP hB1 hk1
          clear hB hB1 hk1 hz1 hvm ht t
          obtain ⟨hr556, hi556⟩ := hw
          have hi556 : fc_A α M556 := by rw [hi556]; exact hcA
          refine lv_aload_n hx hb dL_law_559 rfl (lv_at hl 2 rfl) ?_
          refine lv_aload_n hx hb dL_law_560 rfl (lv_at hl 0 rfl) ?_
          refine lv_iload hx hb dL_law_561 (lv_at hl 4 rfl) ?_
          refine lv_iconst (v := 1) hx hb dL_law_563 (by decide) ?_
          refine lv_iadd hx hb dL_law_564 ?_
          refine fl_ti (y := nI (4 * j + 1)) (by show nI (4 * j) + nI 1 = nI (4 * j + 1); exact nI_add _ _) ?_
          refine lp_ld (A := (fun q : Nat => s.heap.size ≤ q)) hx hb hXd hbl hbA hS (4 * j + 1) rfl (by omega) hL dL_law_565 ?_
          refine lv_aload_n hx hb dL_law_566 rfl (lv_at hl 0 rfl) ?_
          refine lv_iload hx hb dL_law_567 (lv_at hl 4 rfl) ?_
          refine lv_iconst (v := 2) hx hb dL_law_569 (by decide) ?_
          refine lv_iadd hx hb dL_law_570 ?_
          refine fl_ti (y := nI (4 * j + 2)) (by show nI (4 * j) + nI 2 = nI (4 * j + 2); exact nI_add _ _) ?_
          refine lp_ld (A := (fun q : Nat => s.heap.size ≤ q)) hx hb hXd hbl hbA hS (4 * j + 2) rfl (by omega) hL dL_law_571 ?_
          refine va_calli (va_runV (As := [.int (xs (4 * j + 1)), .int (xs (4 * j + 2))]) (rest := [.int (r556)]) ⟨hx, hb, hml, hown, hts⟩ (c_X5_row l hC.2.1 Mm α hmA (xs (4 * j + 1)) (xs (4 * j + 2))) (cwV 2 hts gL_law_X5_row rfl rfl rfl (by decide +kernel) ⟨(Nat.le_of_ble_eq_true rfl), (Nat.le_of_ble_eq_true rfl)⟩) ⟨fl_blind, va_recv hKd hP556.2.1 (ci := 7) (q0 := 0) rfl (fl_at (by decide) rfl), fl_pre hP556.2.1 hKd hNd⟩ rfl rfl hl.1 rfl (lv_room (Nat.le_of_ble_eq_true rfl)) dL_law_572 ⟨hrc, hrs⟩) hS (fun z _ h => hC.m h) (fun z h => hC.m h) (fun r572 M572 t H1 locs ht hvm hw hB hz1 hk1 hS => ?_)
          have hB1 : va_P D vwCl (fmP cI cJ am M572) H1 := by rw [← ht]; exact hB
          have hP572 := lm_P.m hC hP556 hB1 hk1
          clear hB hB1 hk1 hz1 hvm ht t
          obtain ⟨hr572, hi572⟩ := hw
          have hi572 : fm_A α M572 := by rw [hi572]; exact hmA
          refine lv_icmp_eq (tgt := 828) hx hb dL_law_575 (by decide) (fun _ => ?_) (fun h => absurd (hr556.trans hr572.symm) h)
          refine hw_wd (k := 78 + (j + 1)) (n := 2615 + 6 * (j + 1)) (by omega) (by omega) ?_
          exact KB α M556 M572 fo d0 (Nat.le_succ_of_le hra) hi556 hi572 hd0 H1 locs hP572 hS ls (lv_sub hl [0, 1, 2, 3, 4] rfl)
        · refine lv_tableIn (off := 541) (tgt := 580) hx hb dL_law_39 (by omega) (by omega) (by rw [hk]; rfl) (by decide) ?_
          refine lv_aload_n hx hb dL_law_580 rfl (lv_at hl 1 rfl) ?_
          refine lv_aload_n hx hb dL_law_581 rfl (lv_at hl 0 rfl) ?_
          refine lv_iload hx hb dL_law_582 (lv_at hl 4 rfl) ?_
          refine lv_iconst (v := 1) hx hb dL_law_584 (by decide) ?_
          refine lv_iadd hx hb dL_law_585 ?_
          refine fl_ti (y := nI (4 * j + 1)) (by show nI (4 * j) + nI 1 = nI (4 * j + 1); exact nI_add _ _) ?_
          refine lp_ld (A := (fun q : Nat => s.heap.size ≤ q)) hx hb hXd hbl hbA hS (4 * j + 1) rfl (by omega) hL dL_law_586 ?_
          refine va_calll (va_runV (As := [.int (xs (4 * j + 1))]) (rest := []) ⟨hx, hb, hml, hown, hts⟩ (c_X4_weight l hC.1 Mc α hcA (xs (4 * j + 1))) (cwV 1 hts gL_law_X4_weight rfl rfl rfl (by decide +kernel) ⟨(Nat.le_of_ble_eq_true rfl), (Nat.le_of_ble_eq_true rfl)⟩) ⟨fl_blind, va_recv hKd hP.1 (ci := 6) (q0 := 0) rfl (fl_at (by decide) rfl), fl_pre hP.1 hKd hNd⟩ rfl rfl hl.1 rfl (lv_room (Nat.le_of_ble_eq_true rfl)) dL_law_587 ⟨hrc, hrs⟩) hS (fun z _ h => hC.c h) (fun z h => hC.c h) (fun r587 M587 t H1 locs ht hvm hw hB hz1 hk1 hS => ?_)
          have hB1 : va_P D vwCl (fcP cI cII ad M587) H1 := by rw [← ht]; exact hB
          have hP587 := lm_P.c hC hP hB1 hk1
          clear hB hB1 hk1 hz1 hvm ht t
          obtain ⟨hr587, hi587⟩ := hw
          have hi587 : fc_A α M587 := by rw [hi587]; exact hcA
          refine lv_aload_n hx hb dL_law_590 rfl (lv_at hl 2 rfl) ?_
          refine lv_aload_n hx hb dL_law_591 rfl (lv_at hl 0 rfl) ?_
          refine lv_iload hx hb dL_law_592 (lv_at hl 4 rfl) ?_
          refine lv_iconst (v := 1) hx hb dL_law_594 (by decide) ?_
          refine lv_iadd hx hb dL_law_595 ?_
          refine fl_ti (y := nI (4 * j + 1)) (by show nI (4 * j) + nI 1 = nI (4 * j + 1); exact nI_add _ _) ?_
          refine lp_ld (A := (fun q : Nat => s.heap.size ≤ q)) hx hb hXd hbl hbA hS (4 * j + 1) rfl (by omega) hL dL_law_596 ?_
          refine va_calll (va_runV (As := [.int (xs (4 * j + 1))]) (rest := [.long (r587)]) ⟨hx, hb, hml, hown, hts⟩ (c_X5_weight l hC.2.1 Mm α hmA (xs (4 * j + 1))) (cwV 1 hts gL_law_X5_weight rfl rfl rfl (by decide +kernel) ⟨(Nat.le_of_ble_eq_true rfl), (Nat.le_of_ble_eq_true rfl)⟩) ⟨fl_blind, va_recv hKd hP587.2.1 (ci := 7) (q0 := 0) rfl (fl_at (by decide) rfl), fl_pre hP587.2.1 hKd hNd⟩ rfl rfl hl.1 rfl (lv_room (Nat.le_of_ble_eq_true rfl)) dL_law_597 ⟨hrc, hrs⟩) hS (fun z _ h => hC.m h) (fun z h => hC.m h) (fun r597 M597 t H1 locs ht hvm hw hB hz1 hk1 hS => ?_)
          have hB1 : va_P D vwCl (fmP cI cJ am M597) H1 := by rw [← ht]; exact hB
          have hP597 := lm_P.m hC hP587 hB1 hk1
          clear hB hB1 hk1 hz1 hvm ht t
          obtain ⟨hr597, hi597⟩ := hw
          have hi597 : fm_A α M597 := by rw [hi597]; exact hmA
          refine fl_leq (tgt := 828) hx hb dL_law_600 dL_law_601 (by decide) (fun _ => ?_) (fun h => absurd (hr587.trans hr597.symm) h)
          refine hw_wd (k := 78 + (j + 1)) (n := 2615 + 6 * (j + 1)) (by omega) (by omega) ?_
          exact KB α M587 M597 fo d0 (Nat.le_succ_of_le hra) hi587 hi597 hd0 H1 locs hP597 hS ls (lv_sub hl [0, 1, 2, 3, 4] rfl)
        · refine lv_tableIn (off := 567) (tgt := 606) hx hb dL_law_39 (by omega) (by omega) (by rw [hk]; rfl) (by decide) ?_
          refine lv_aload_n hx hb dL_law_606 rfl (lv_at hl 1 rfl) ?_
          refine lv_aload_n hx hb dL_law_607 rfl (lv_at hl 0 rfl) ?_
          refine lv_iload hx hb dL_law_608 (lv_at hl 4 rfl) ?_
          refine lv_iconst (v := 1) hx hb dL_law_610 (by decide) ?_
          refine lv_iadd hx hb dL_law_611 ?_
          refine fl_ti (y := nI (4 * j + 1)) (by show nI (4 * j) + nI 1 = nI (4 * j + 1); exact nI_add _ _) ?_
          refine lp_ld (A := (fun q : Nat => s.heap.size ≤ q)) hx hb hXd hbl hbA hS (4 * j + 1) rfl (by omega) hL dL_law_612 ?_
          refine lv_aload_n hx hb dL_law_613 rfl (lv_at hl 0 rfl) ?_
          refine lv_iload hx hb dL_law_614 (lv_at hl 4 rfl) ?_
          refine lv_iconst (v := 2) hx hb dL_law_616 (by decide) ?_
          refine lv_iadd hx hb dL_law_617 ?_
          refine fl_ti (y := nI (4 * j + 2)) (by show nI (4 * j) + nI 2 = nI (4 * j + 2); exact nI_add _ _) ?_
          refine lp_ld (A := (fun q : Nat => s.heap.size ≤ q)) hx hb hXd hbl hbA hS (4 * j + 2) rfl (by omega) hL dL_law_618 ?_
          refine lv_aload_n hx hb dL_law_619 rfl (lv_at hl 3 rfl) ?_
          refine va_calli (lh_runSW (As := [.ref (ad 0), .int (xs (4 * j + 1)), .int (xs (4 * j + 2)), .ref o]) (rest := []) ⟨hx, hb, hml, hown, hts⟩ (c_L_history l hlt hC.1 o (lm_ho hC) fo Mc α hcA sa (xs (4 * j + 1)) (xs (4 * j + 2))) gL_law_L_history rfl rfl rfl lh_d4 ⟨(Nat.le_of_ble_eq_true rfl), (Nat.le_of_ble_eq_true rfl)⟩ ⟨lh_blind, lh_pre hC hP hKd hNd (hTh.same rfl) (hZh.moved (U := s.setDrawn d0) (Vm.Alike.refl s.vm)) hS⟩ rfl hl.1 rfl (lv_room (Nat.le_of_ble_eq_true rfl)) dL_law_620 ⟨hrc6, hrs6⟩) hS (fun z _ h => hC.h h) (fun z h => hC.h h) (fun r620 u t H1 locs ht hvm hw hB hz1 hk1 hS => ?_)
          obtain ⟨f620, M620⟩ := u
          obtain ⟨hr620, ho620, hi620⟩ := hw
          dsimp only at hr620 ho620 hi620
          have hB1 : va_P D vwCl (lh_pool cI cJ cII ad o f620 M620) H1 := by rw [← ht]; exact hB
          have hP620 := lm_P.h hC hP hB1 hk1
          clear hB hB1 hk1 hz1 hvm ht t
          have hi620 : fc_A α M620 := by rw [hi620]; exact hcA
          have hrc : 78 + j + 1 + 0 ≤ room_1.cells := hrc6
          have hrs : 2615 + 6 * j + 6 + 0 ≤ room_1.slots := hrs6
          refine lv_istore hx hb dL_law_623 hl (by decide) rfl (fun ls hl => ?_)
          have hl : lv_has ls 9 [(0, .ref b), (1, .ref (ad 0)), (2, .ref (am 0)), (3, .ref o), (4, .int (nI (4 * j))), (5, .int r620)] := lv_sub hl [1, 2, 3, 4, 5, 0] rfl
          refine lv_aload_n hx hb dL_law_625 rfl (lv_at hl 2 rfl) ?_
          refine lv_aload_n hx hb dL_law_626 rfl (lv_at hl 0 rfl) ?_
          refine lv_iload hx hb dL_law_627 (lv_at hl 4 rfl) ?_
          refine lv_iconst (v := 1) hx hb dL_law_629 (by decide) ?_
          refine lv_iadd hx hb dL_law_630 ?_
          refine fl_ti (y := nI (4 * j + 1)) (by show nI (4 * j) + nI 1 = nI (4 * j + 1); exact nI_add _ _) ?_
          refine lp_ld (A := (fun q : Nat => s.heap.size ≤ q)) hx hb hXd hbl hbA hS (4 * j + 1) rfl (by omega) hL dL_law_631 ?_
          refine lv_aload_n hx hb dL_law_632 rfl (lv_at hl 0 rfl) ?_
          refine lv_iload hx hb dL_law_633 (lv_at hl 4 rfl) ?_
          refine lv_iconst (v := 2) hx hb dL_law_635 (by decide) ?_
          refine lv_iadd hx hb dL_law_636 ?_
          refine fl_ti (y := nI (4 * j + 2)) (by show nI (4 * j) + nI 2 = nI (4 * j + 2); exact nI_add _ _) ?_
          refine lp_ld (A := (fun q : Nat => s.heap.size ≤ q)) hx hb hXd hbl hbA hS (4 * j + 2) rfl (by omega) hL dL_law_637 ?_
          refine va_calli (va_runV (As := [.int (xs (4 * j + 1)), .int (xs (4 * j + 2))]) (rest := []) ⟨hx, hb, hml, hown, hts⟩ (c_X5_history l hC.2.1 Mm α hmA (xs (4 * j + 1)) (xs (4 * j + 2))) (cwV 2 hts gL_law_X5_history rfl rfl rfl (by decide +kernel) ⟨(Nat.le_of_ble_eq_true rfl), (Nat.le_of_ble_eq_true rfl)⟩) ⟨fl_blind, va_recv hKd hP620.2.1 (ci := 7) (q0 := 0) rfl (fl_at (by decide) rfl), fl_pre hP620.2.1 hKd hNd⟩ rfl rfl hl.1 rfl (lv_room (Nat.le_of_ble_eq_true rfl)) dL_law_638 ⟨hrc, hrs⟩) hS (fun z _ h => hC.m h) (fun z h => hC.m h) (fun r638 M638 t H1 locs ht hvm hw hB hz1 hk1 hS => ?_)
          have hB1 : va_P D vwCl (fmP cI cJ am M638) H1 := by rw [← ht]; exact hB
          have hP638 := lm_P.m hC hP620 hB1 hk1
          clear hB hB1 hk1 hz1 hvm ht t
          obtain ⟨hr638, hi638⟩ := hw
          obtain ⟨hv638, hi638⟩ := hi638
          refine lv_istore hx hb dL_law_641 hl (by decide) rfl (fun ls hl => ?_)
          have hl : lv_has ls 9 [(0, .ref b), (1, .ref (ad 0)), (2, .ref (am 0)), (3, .ref o), (4, .int (nI (4 * j))), (5, .int r620), (6, .int r638)] := lv_sub hl [1, 2, 3, 4, 5, 6, 0] rfl
          refine lv_aload_n hx hb dL_law_643 rfl (lv_at hl 2 rfl) ?_
          refine va_calli (va_runV (As := []) (rest := []) ⟨hx, hb, hml, hown, hts⟩ (c_X5_thrown l hC.2.1 M638) (cwV 0 hts gL_law_X5_thrown rfl rfl rfl (by decide +kernel) ⟨(Nat.le_of_ble_eq_true rfl), (Nat.le_of_ble_eq_true rfl)⟩) ⟨fl_blind, va_recv hKd hP638.2.1 (ci := 7) (q0 := 0) rfl (fl_at (by decide) rfl), fl_pre hP638.2.1 hKd hNd⟩ rfl rfl hl.1 rfl (lv_room (Nat.le_of_ble_eq_true rfl)) dL_law_644 ⟨hrc, hrs⟩) hS (fun z _ h => hC.m h) (fun z h => hC.m h) (fun r644 M644 t H1 locs ht hvm hw hB hz1 hk1 hS => ?_)
          have hB1 : va_P D vwCl (fmP cI cJ am M644) H1 := by rw [← ht]; exact hB
          have hP644 := lm_P.m hC hP638 hB1 hk1
          clear hB hB1 hk1 hz1 hvm ht t
          obtain ⟨hr644, hi644⟩ := hw
          have hi644 : fm_A α M644 := by rw [hi644]; exact hi638
          refine lv_iload hx hb dL_law_647 (lv_at hl 5 rfl) ?_
          refine lv_icmp_eq (tgt := 654) hx hb dL_law_649 (by decide) (fun _ => ?_) (fun h => absurd (hr644.trans (hr638.trans hr620.symm)) h)
          have K671 : W p l e room_1 (s.setDrawn d0) m #[Value.ref b] below meth c H1 locs (78 + j + 1 + 0 + 0) (2615 + 6 * j + 6 + 0 + 0) (lw_Z below #[Value.ref b] s) (F0 m 671 ls []) := by
            refine lv_goto (tgt := 828) hx hb dL_law_671 (by decide) ?_
            refine hw_wd (k := 78 + (j + 1)) (n := 2615 + 6 * (j + 1)) (by omega) (by omega) ?_
            exact KB α M620 M644 f620 d0 (Nat.le_succ_of_le hra) hi620 hi644 hd0 H1 locs hP644 hS ls (lv_sub hl [0, 1, 2, 3, 4] rfl)
          refine lv_iload hx hb dL_law_654 (lv_at hl 5 rfl) ?_
          refine lv_if_ne (tgt := 671) hx hb dL_law_656 (by decide) (fun _ => K671) (fun hz => ?_)
          have hq : ∃ v, o_hist α (xs (4 * j + 1)) (xs (4 * j + 2)) = some v := by
            rcases q : o_hist α (xs (4 * j + 1)) (xs (4 * j + 2)) with _ | v
            · rw [q] at hr620
              exact absurd (hr620.symm.trans hz) (by decide)
            · exact ⟨v, rfl⟩
          obtain ⟨v9, hv9⟩ := hq
          refine lv_aload_n hx hb dL_law_659 rfl (lv_at hl 3 rfl) ?_
          refine lv_iconst (v := 0) hx hb dL_law_660 (by decide) ?_
          refine va_lald hx hb hKd hP644.2.2 0 1 rfl rfl (i := 0) (show vp_in (nI 0) 1 from vp_in_nI (by decide) (by decide)) dL_law_661 ?_
          refine lv_iload hx hb dL_law_662 (lv_at hl 6 rfl) ?_
          refine lv_i2l hx hb dL_law_664 rfl ?_
          exact fl_leq (tgt := 671) hx hb dL_law_665 dL_law_666 (by decide) (fun _ => K671) (fun h => absurd ((ho620 v9 hv9).trans (by rw [hv638 v9 hv9])) h)
        · refine lv_tableIn (off := 635) (tgt := 674) hx hb dL_law_39 (by omega) (by omega) (by rw [hk]; rfl) (by decide) ?_
          refine lv_aload_n hx hb dL_law_674 rfl (lv_at hl 1 rfl) ?_
          refine lv_aload_n hx hb dL_law_675 rfl (lv_at hl 0 rfl) ?_
          refine lv_iload hx hb dL_law_676 (lv_at hl 4 rfl) ?_
          refine lv_iconst (v := 1) hx hb dL_law_678 (by decide) ?_
          refine lv_iadd hx hb dL_law_679 ?_
          refine fl_ti (y := nI (4 * j + 1)) (by show nI (4 * j) + nI 1 = nI (4 * j + 1); exact nI_add _ _) ?_
          refine lp_ld (A := (fun q : Nat => s.heap.size ≤ q)) hx hb hXd hbl hbA hS (4 * j + 1) rfl (by omega) hL dL_law_680 ?_
          refine lv_aload_n hx hb dL_law_681 rfl (lv_at hl 0 rfl) ?_
          refine lv_iload hx hb dL_law_682 (lv_at hl 4 rfl) ?_
          refine lv_iconst (v := 2) hx hb dL_law_684 (by decide) ?_
          refine lv_iadd hx hb dL_law_685 ?_
          refine fl_ti (y := nI (4 * j + 2)) (by show nI (4 * j) + nI 2 = nI (4 * j + 2); exact nI_add _ _) ?_
          refine lp_ld (A := (fun q : Nat => s.heap.size ≤ q)) hx hb hXd hbl hbA hS (4 * j + 2) rfl (by omega) hL dL_law_686 ?_
          refine lv_aload_n hx hb dL_law_687 rfl (lv_at hl 0 rfl) ?_
          refine lv_iload hx hb dL_law_688 (lv_at hl 4 rfl) ?_
          refine lv_iconst (v := 3) hx hb dL_law_690 (by decide) ?_
          refine lv_iadd hx hb dL_law_691 ?_
          refine fl_ti (y := nI (4 * j + 3)) (by show nI (4 * j) + nI 3 = nI (4 * j + 3); exact nI_add _ _) ?_
          refine lp_ld (A := (fun q : Nat => s.heap.size ≤ q)) hx hb hXd hbl hbA hS (4 * j + 3) rfl (by omega) hL dL_law_692 ?_
          refine va_calli (va_runV (As := [.int (xs (4 * j + 1)), .int (xs (4 * j + 2)), .int (xs (4 * j + 3))]) (rest := []) ⟨hx, hb, hml, hown, hts⟩ (c_X4_write l hC.1 Mc α hcA (xs (4 * j + 1)) (xs (4 * j + 2)) (xs (4 * j + 3))) (cwV 3 hts gL_law_X4_write rfl rfl rfl (by decide +kernel) ⟨(Nat.le_of_ble_eq_true rfl), (Nat.le_of_ble_eq_true rfl)⟩) ⟨fl_blind, va_recv hKd hP.1 (ci := 6) (q0 := 0) rfl (fl_at (by decide) rfl), fl_pre hP.1 hKd hNd⟩ rfl rfl hl.1 rfl (lv_room (Nat.le_of_ble_eq_true rfl)) dL_law_693 ⟨hrc, hrs⟩) hS (fun z _ h => hC.c h) (fun z h => hC.c h) (fun r693 M693 t H1 locs ht hvm hw hB hz1 hk1 hS => ?_)
          have hB1 : va_P D vwCl (fcP cI cII ad M693) H1 := by rw [← ht]; exact hB
          have hP693 := lm_P.c hC hP hB1 hk1
          clear hB hB1 hk1 hz1 hvm ht t
          obtain ⟨hr693, hi693⟩ := hw
          refine lv_aload_n hx hb dL_law_696 rfl (lv_at hl 2 rfl) ?_
          refine lv_aload_n hx hb dL_law_697 rfl (lv_at hl 0 rfl) ?_
          refine lv_iload hx hb dL_law_698 (lv_at hl 4 rfl) ?_
          refine lv_iconst (v := 1) hx hb dL_law_700 (by decide) ?_
          refine lv_iadd hx hb dL_law_701 ?_
          refine fl_ti (y := nI (4 * j + 1)) (by show nI (4 * j) + nI 1 = nI (4 * j + 1); exact nI_add _ _) ?_
          refine lp_ld (A := (fun q : Nat => s.heap.size ≤ q)) hx hb hXd hbl hbA hS (4 * j + 1) rfl (by omega) hL dL_law_702 ?_
          refine lv_aload_n hx hb dL_law_703 rfl (lv_at hl 0 rfl) ?_
          refine lv_iload hx hb dL_law_704 (lv_at hl 4 rfl) ?_
          refine lv_iconst (v := 2) hx hb dL_law_706 (by decide) ?_
          refine lv_iadd hx hb dL_law_707 ?_
          refine fl_ti (y := nI (4 * j + 2)) (by show nI (4 * j) + nI 2 = nI (4 * j + 2); exact nI_add _ _) ?_
          refine lp_ld (A := (fun q : Nat => s.heap.size ≤ q)) hx hb hXd hbl hbA hS (4 * j + 2) rfl (by omega) hL dL_law_708 ?_
          refine lv_aload_n hx hb dL_law_709 rfl (lv_at hl 0 rfl) ?_
          refine lv_iload hx hb dL_law_710 (lv_at hl 4 rfl) ?_
          refine lv_iconst (v := 3) hx hb dL_law_712 (by decide) ?_
          refine lv_iadd hx hb dL_law_713 ?_
          refine fl_ti (y := nI (4 * j + 3)) (by show nI (4 * j) + nI 3 = nI (4 * j + 3); exact nI_add _ _) ?_
          refine lp_ld (A := (fun q : Nat => s.heap.size ≤ q)) hx hb hXd hbl hbA hS (4 * j + 3) rfl (by omega) hL dL_law_714 ?_
          refine va_calli (va_runV (As := [.int (xs (4 * j + 1)), .int (xs (4 * j + 2)), .int (xs (4 * j + 3))]) (rest := [.int (r693)]) ⟨hx, hb, hml, hown, hts⟩ (c_X5_write l hC.2.1 Mm α hmA (xs (4 * j + 1)) (xs (4 * j + 2)) (xs (4 * j + 3))) (cwV 3 hts gL_law_X5_write rfl rfl rfl (by decide +kernel) ⟨(Nat.le_of_ble_eq_true rfl), (Nat.le_of_ble_eq_true rfl)⟩) ⟨fl_blind, va_recv hKd hP693.2.1 (ci := 7) (q0 := 0) rfl (fl_at (by decide) rfl), fl_pre hP693.2.1 hKd hNd⟩ rfl rfl hl.1 rfl (lv_room (Nat.le_of_ble_eq_true rfl)) dL_law_715 ⟨hrc, hrs⟩) hS (fun z _ h => hC.m h) (fun z h => hC.m h) (fun r715 M715 t H1 locs ht hvm hw hB hz1 hk1 hS => ?_)
          have hB1 : va_P D vwCl (fmP cI cJ am M715) H1 := by rw [← ht]; exact hB
          have hP715 := lm_P.m hC hP693 hB1 hk1
          clear hB hB1 hk1 hz1 hvm ht t
          obtain ⟨hr715, hi715⟩ := hw
          refine lv_icmp_eq (tgt := 828) hx hb dL_law_718 (by decide) (fun _ => ?_) (fun h => absurd (hr693.trans hr715.symm) h)
          refine hw_wd (k := 78 + (j + 1)) (n := 2615 + 6 * (j + 1)) (by omega) (by omega) ?_
          exact KB (o_write α (xs (4 * j + 1)) (xs (4 * j + 2)) (xs (4 * j + 3))).2 M693 M715 fo d0 (Nat.le_trans (an_write α (xs (4 * j + 1)) (xs (4 * j + 2)) (xs (4 * j + 3))) (Nat.succ_le_succ hra)) hi693 hi715 hd0 H1 locs hP715 hS ls (lv_sub hl [0, 1, 2, 3, 4] rfl)
        · refine lv_tableIn (off := 684) (tgt := 723) hx hb dL_law_39 (by omega) (by omega) (by rw [hk]; rfl) (by decide) ?_
          refine lv_aload_n hx hb dL_law_723 rfl (lv_at hl 1 rfl) ?_
          refine lv_aload_n hx hb dL_law_724 rfl (lv_at hl 0 rfl) ?_
          refine lv_iload hx hb dL_law_725 (lv_at hl 4 rfl) ?_
          refine lv_iconst (v := 1) hx hb dL_law_727 (by decide) ?_
          refine lv_iadd hx hb dL_law_728 ?_
          refine fl_ti (y := nI (4 * j + 1)) (by show nI (4 * j) + nI 1 = nI (4 * j + 1); exact nI_add _ _) ?_
          refine lp_ld (A := (fun q : Nat => s.heap.size ≤ q)) hx hb hXd hbl hbA hS (4 * j + 1) rfl (by omega) hL dL_law_729 ?_
          refine va_calll (va_runV (As := [.int (xs (4 * j + 1))]) (rest := []) ⟨hx, hb, hml, hown, hts⟩ (c_X4_told l hC.1 Mc α hcA (xs (4 * j + 1))) (cwV 1 hts gL_law_X4_told rfl rfl rfl (by decide +kernel) ⟨(Nat.le_of_ble_eq_true rfl), (Nat.le_of_ble_eq_true rfl)⟩) ⟨fl_blind, va_recv hKd hP.1 (ci := 6) (q0 := 0) rfl (fl_at (by decide) rfl), fl_pre hP.1 hKd hNd⟩ rfl rfl hl.1 rfl (lv_room (Nat.le_of_ble_eq_true rfl)) dL_law_730 ⟨hrc, hrs⟩) hS (fun z _ h => hC.c h) (fun z h => hC.c h) (fun r730 M730 t H1 locs ht hvm hw hB hz1 hk1 hS => ?_)
          have hB1 : va_P D vwCl (fcP cI cII ad M730) H1 := by rw [← ht]; exact hB
          have hP730 := lm_P.c hC hP hB1 hk1
          clear hB hB1 hk1 hz1 hvm ht t
          obtain ⟨hr730, hi730⟩ := hw
          have hi730 : fc_A α M730 := by rw [hi730]; exact hcA
          refine lv_aload_n hx hb dL_law_733 rfl (lv_at hl 2 rfl) ?_
          refine lv_aload_n hx hb dL_law_734 rfl (lv_at hl 0 rfl) ?_
          refine lv_iload hx hb dL_law_735 (lv_at hl 4 rfl) ?_
          refine lv_iconst (v := 1) hx hb dL_law_737 (by decide) ?_
          refine lv_iadd hx hb dL_law_738 ?_
          refine fl_ti (y := nI (4 * j + 1)) (by show nI (4 * j) + nI 1 = nI (4 * j + 1); exact nI_add _ _) ?_
          refine lp_ld (A := (fun q : Nat => s.heap.size ≤ q)) hx hb hXd hbl hbA hS (4 * j + 1) rfl (by omega) hL dL_law_739 ?_
          refine va_calll (va_runV (As := [.int (xs (4 * j + 1))]) (rest := [.long (r730)]) ⟨hx, hb, hml, hown, hts⟩ (c_X5_told l hC.2.1 Mm α hmA (xs (4 * j + 1))) (cwV 1 hts gL_law_X5_told rfl rfl rfl (by decide +kernel) ⟨(Nat.le_of_ble_eq_true rfl), (Nat.le_of_ble_eq_true rfl)⟩) ⟨fl_blind, va_recv hKd hP730.2.1 (ci := 7) (q0 := 0) rfl (fl_at (by decide) rfl), fl_pre hP730.2.1 hKd hNd⟩ rfl rfl hl.1 rfl (lv_room (Nat.le_of_ble_eq_true rfl)) dL_law_740 ⟨hrc, hrs⟩) hS (fun z _ h => hC.m h) (fun z h => hC.m h) (fun r740 M740 t H1 locs ht hvm hw hB hz1 hk1 hS => ?_)
          have hB1 : va_P D vwCl (fmP cI cJ am M740) H1 := by rw [← ht]; exact hB
          have hP740 := lm_P.m hC hP730 hB1 hk1
          clear hB hB1 hk1 hz1 hvm ht t
          obtain ⟨hr740, hi740⟩ := hw
          have hi740 : fm_A α M740 := by rw [hi740]; exact hmA
          refine fl_leq (tgt := 828) hx hb dL_law_743 dL_law_744 (by decide) (fun _ => ?_) (fun h => absurd (hr730.trans hr740.symm) h)
          refine hw_wd (k := 78 + (j + 1)) (n := 2615 + 6 * (j + 1)) (by omega) (by omega) ?_
          exact KB α M730 M740 fo d0 (Nat.le_succ_of_le hra) hi730 hi740 hd0 H1 locs hP740 hS ls (lv_sub hl [0, 1, 2, 3, 4] rfl)
        · refine lv_tableIn (off := 710) (tgt := 749) hx hb dL_law_39 (by omega) (by omega) (by rw [hk]; rfl) (by decide) ?_
          refine lv_aload_n hx hb dL_law_749 rfl (lv_at hl 1 rfl) ?_
          refine va_calldD hd0 (va_runV_D (As := []) (rest := []) ⟨hx, hb, hml, hown, hts⟩ (c_X4_evidence l hC.1 Mc α hcA) (cwV 0 hts gL_law_X4_evidence rfl rfl rfl (by decide +kernel) ⟨(Nat.le_of_ble_eq_true rfl), (Nat.le_of_ble_eq_true rfl)⟩) ⟨fl_blind, va_recv hKd hP.1 (ci := 6) (q0 := 0) rfl (fl_at (by decide) rfl), fl_pre hP.1 hKd hNd⟩ rfl rfl hl.1 rfl (lv_room (Nat.le_of_ble_eq_true rfl)) dL_law_750 ⟨hrc, hrs⟩) hS (fun z _ h => hC.c h) (fun z h => hC.c h) (fun r750 M750 t H1 locs ht hvm hw hB hz1 hk1 hS d750 hd750 => ?_)
          have hB1 : va_P D vwCl (fcP cI cII ad M750) H1 := by rw [← ht]; exact hB
          have hP750 := lm_P.c hC hP hB1 hk1
          clear hB hB1 hk1 hz1 hvm ht t
          obtain ⟨hr750, hi750⟩ := hw
          have hi750 : fc_A α M750 := by rw [hi750]; exact hcA
          have hts := dr_words hts0 d750
          have hKd : va_K D vwCl (fl_tys cI cJ cII) (s.setDrawn d750) := hK
          have hNd : fl_N (s.setDrawn d750) := hN.1.same rfl
          have hXd : va_X b L xs (s.setDrawn d750) s.heap := hX
          refine lv_dstore hx hb dL_law_753 hl (by decide) rfl (fun ls hl => ?_)
          have hl : lv_has ls 9 [(0, .ref b), (1, .ref (ad 0)), (2, .ref (am 0)), (3, .ref o), (4, .int (nI (4 * j))), (5, .double r750)] := lv_sub hl [1, 2, 3, 4, 5, 0] rfl
          refine lv_aload_n hx hb dL_law_755 rfl (lv_at hl 2 rfl) ?_
          refine va_calldD hd750 (va_runV_D (As := []) (rest := []) ⟨hx, hb, hml, hown, hts⟩ (c_X5_evidence l hC.2.1 Mm α hmA) (cwV 0 hts gL_law_X5_evidence rfl rfl rfl (by decide +kernel) ⟨(Nat.le_of_ble_eq_true rfl), (Nat.le_of_ble_eq_true rfl)⟩) ⟨fl_blind, va_recv hKd hP750.2.1 (ci := 7) (q0 := 0) rfl (fl_at (by decide) rfl), fl_pre hP750.2.1 hKd hNd⟩ rfl rfl hl.1 rfl (lv_room (Nat.le_of_ble_eq_true rfl)) dL_law_756 ⟨hrc, hrs⟩) hS (fun z _ h => hC.m h) (fun z h => hC.m h) (fun r756 M756 t H1 locs ht hvm hw hB hz1 hk1 hS d756 hd756 => ?_)
          have hB1 : va_P D vwCl (fmP cI cJ am M756) H1 := by rw [← ht]; exact hB
          have hP756 := lm_P.m hC hP750 hB1 hk1
          clear hB hB1 hk1 hz1 hvm ht t
          obtain ⟨hr756, hi756⟩ := hw
          have hi756 : fm_A α M756 := by rw [hi756]; exact hmA
          have hts := dr_words hts0 d756
          have hKd : va_K D vwCl (fl_tys cI cJ cII) (s.setDrawn d756) := hK
          have hNd : fl_N (s.setDrawn d756) := hN.1.same rfl
          have hXd : va_X b L xs (s.setDrawn d756) s.heap := hX
          refine lv_dstore hx hb dL_law_759 hl (by decide) rfl (fun ls hl => ?_)
          have hl : lv_has ls 9 [(0, .ref b), (1, .ref (ad 0)), (2, .ref (am 0)), (3, .ref o), (4, .int (nI (4 * j))), (5, .double r750), (7, .double r756)] := lv_sub hl [1, 2, 3, 4, 5, 6, 0] rfl
          have K787 : W p l e room_1 (s.setDrawn d756) m #[Value.ref b] below meth c H1 locs (78 + j + 0 + 0) (2615 + 6 * j + 0 + 0) (lw_Z below #[Value.ref b] s) (F0 m 787 ls []) := by
            refine lv_goto (tgt := 828) hx hb dL_law_787 (by decide) ?_
            refine hw_wd (k := 78 + (j + 1)) (n := 2615 + 6 * (j + 1)) (by omega) (by omega) ?_
            exact KB α M750 M756 fo d756 (Nat.le_succ_of_le hra) hi750 hi756 hd756 H1 locs hP756 hS ls (lv_sub hl [0, 1, 2, 3, 4] rfl)
          refine lv_dload hx hb dL_law_761 (lv_at hl 5 rfl) ?_
          refine lv_dload hx hb dL_law_763 (lv_at hl 6 rfl) ?_
          refine lv_dcmp hx hb dL_law_765 ?_
          refine lv_if_eq (tgt := 787) hx hb dL_law_766 (by decide) (fun _ => K787) (fun hne => ?_)
          obtain ⟨hn1, hn2⟩ := (ev_cmp hr750 hr756).resolve_left hne
          refine lv_dload hx hb dL_law_769 (lv_at hl 5 rfl) ?_
          refine lv_dload hx hb dL_law_771 (lv_at hl 5 rfl) ?_
          refine lv_dcmp hx hb dL_law_773 ?_
          refine lv_if_eq (tgt := 785) hx hb dL_law_774 (by decide) (fun h => absurd h hn1) (fun _ => ?_)
          refine lv_dload hx hb dL_law_777 (lv_at hl 6 rfl) ?_
          refine lv_dload hx hb dL_law_779 (lv_at hl 6 rfl) ?_
          refine lv_dcmp hx hb dL_law_781 ?_
          exact lv_if_ne (tgt := 787) hx hb dL_law_782 (by decide) (fun _ => K787) (fun h => absurd h hn2)
        · refine lv_tableIn (off := 751) (tgt := 790) hx hb dL_law_39 (by omega) (by omega) (by rw [hk]; rfl) (by decide) ?_
          refine lv_aload_n hx hb dL_law_790 rfl (lv_at hl 1 rfl) ?_
          refine lv_aload_n hx hb dL_law_791 rfl (lv_at hl 0 rfl) ?_
          refine lv_iload hx hb dL_law_792 (lv_at hl 4 rfl) ?_
          refine lv_iconst (v := 1) hx hb dL_law_794 (by decide) ?_
          refine lv_iadd hx hb dL_law_795 ?_
          refine fl_ti (y := nI (4 * j + 1)) (by show nI (4 * j) + nI 1 = nI (4 * j + 1); exact nI_add _ _) ?_
          refine lp_ld (A := (fun q : Nat => s.heap.size ≤ q)) hx hb hXd hbl hbA hS (4 * j + 1) rfl (by omega) hL dL_law_796 ?_
          refine va_calli (va_runV (As := [.int (xs (4 * j + 1))]) (rest := []) ⟨hx, hb, hml, hown, hts⟩ (c_X4_count l hC.1 Mc α hcA (xs (4 * j + 1))) (cwV 1 hts gL_law_X4_count rfl rfl rfl (by decide +kernel) ⟨(Nat.le_of_ble_eq_true rfl), (Nat.le_of_ble_eq_true rfl)⟩) ⟨fl_blind, va_recv hKd hP.1 (ci := 6) (q0 := 0) rfl (fl_at (by decide) rfl), fl_pre hP.1 hKd hNd⟩ rfl rfl hl.1 rfl (lv_room (Nat.le_of_ble_eq_true rfl)) dL_law_797 ⟨hrc, hrs⟩) hS (fun z _ h => hC.c h) (fun z h => hC.c h) (fun r797 M797 t H1 locs ht hvm hw hB hz1 hk1 hS => ?_)
          have hB1 : va_P D vwCl (fcP cI cII ad M797) H1 := by rw [← ht]; exact hB
          have hP797 := lm_P.c hC hP hB1 hk1
          clear hB hB1 hk1 hz1 hvm ht t
          obtain ⟨hr797, hi797⟩ := hw
          have hi797 : fc_A α M797 := by rw [hi797]; exact hcA
          refine lv_aload_n hx hb dL_law_800 rfl (lv_at hl 2 rfl) ?_
          refine lv_aload_n hx hb dL_law_801 rfl (lv_at hl 0 rfl) ?_
          refine lv_iload hx hb dL_law_802 (lv_at hl 4 rfl) ?_
          refine lv_iconst (v := 1) hx hb dL_law_804 (by decide) ?_
          refine lv_iadd hx hb dL_law_805 ?_
          refine fl_ti (y := nI (4 * j + 1)) (by show nI (4 * j) + nI 1 = nI (4 * j + 1); exact nI_add _ _) ?_
          refine lp_ld (A := (fun q : Nat => s.heap.size ≤ q)) hx hb hXd hbl hbA hS (4 * j + 1) rfl (by omega) hL dL_law_806 ?_
          refine va_calli (va_runV (As := [.int (xs (4 * j + 1))]) (rest := [.int (r797)]) ⟨hx, hb, hml, hown, hts⟩ (c_X5_count l hC.2.1 Mm α hmA (xs (4 * j + 1))) (cwV 1 hts gL_law_X5_count rfl rfl rfl (by decide +kernel) ⟨(Nat.le_of_ble_eq_true rfl), (Nat.le_of_ble_eq_true rfl)⟩) ⟨fl_blind, va_recv hKd hP797.2.1 (ci := 7) (q0 := 0) rfl (fl_at (by decide) rfl), fl_pre hP797.2.1 hKd hNd⟩ rfl rfl hl.1 rfl (lv_room (Nat.le_of_ble_eq_true rfl)) dL_law_807 ⟨hrc, hrs⟩) hS (fun z _ h => hC.m h) (fun z h => hC.m h) (fun r807 M807 t H1 locs ht hvm hw hB hz1 hk1 hS => ?_)
          have hB1 : va_P D vwCl (fmP cI cJ am M807) H1 := by rw [← ht]; exact hB
          have hP807 := lm_P.m hC hP797 hB1 hk1
          clear hB hB1 hk1 hz1 hvm ht t
          obtain ⟨hr807, hi807⟩ := hw
          have hi807 : fm_A α M807 := by rw [hi807]; exact hmA
          refine lv_icmp_eq (tgt := 828) hx hb dL_law_810 (by decide) (fun _ => ?_) (fun h => absurd (hr797.trans hr807.symm) h)
          refine hw_wd (k := 78 + (j + 1)) (n := 2615 + 6 * (j + 1)) (by omega) (by omega) ?_
          exact KB α M797 M807 fo d0 (Nat.le_succ_of_le hra) hi797 hi807 hd0 H1 locs hP807 hS ls (lv_sub hl [0, 1, 2, 3, 4] rfl)
        · refine lv_tableIn (off := 776) (tgt := 815) hx hb dL_law_39 (by omega) (by omega) (by rw [hk]; rfl) (by decide) ?_
          refine lv_aload_n hx hb dL_law_815 rfl (lv_at hl 1 rfl) ?_
          refine va_calli (va_runV (As := []) (rest := []) ⟨hx, hb, hml, hown, hts⟩ (c_X4_clear l hC.1 Mc α hcA) (cwV 0 hts gL_law_X4_clear rfl rfl rfl (by decide +kernel) ⟨(Nat.le_of_ble_eq_true rfl), (Nat.le_of_ble_eq_true rfl)⟩) ⟨fl_blind, va_recv hKd hP.1 (ci := 6) (q0 := 0) rfl (fl_at (by decide) rfl), fl_pre hP.1 hKd hNd⟩ rfl rfl hl.1 rfl (lv_room (Nat.le_of_ble_eq_true rfl)) dL_law_816 ⟨hrc, hrs⟩) hS (fun z _ h => hC.c h) (fun z h => hC.c h) (fun r816 M816 t H1 locs ht hvm hw hB hz1 hk1 hS => ?_)
          have hB1 : va_P D vwCl (fcP cI cII ad M816) H1 := by rw [← ht]; exact hB
          have hP816 := lm_P.c hC hP hB1 hk1
          clear hB hB1 hk1 hz1 hvm ht t
          obtain ⟨hr816, hi816⟩ := hw
          refine lv_aload_n hx hb dL_law_819 rfl (lv_at hl 2 rfl) ?_
          refine va_calli (va_runV (As := []) (rest := [.int (r816)]) ⟨hx, hb, hml, hown, hts⟩ (c_X5_clear l hC.2.1 Mm α hmA) (cwV 0 hts gL_law_X5_clear rfl rfl rfl (by decide +kernel) ⟨(Nat.le_of_ble_eq_true rfl), (Nat.le_of_ble_eq_true rfl)⟩) ⟨fl_blind, va_recv hKd hP816.2.1 (ci := 7) (q0 := 0) rfl (fl_at (by decide) rfl), fl_pre hP816.2.1 hKd hNd⟩ rfl rfl hl.1 rfl (lv_room (Nat.le_of_ble_eq_true rfl)) dL_law_820 ⟨hrc, hrs⟩) hS (fun z _ h => hC.m h) (fun z h => hC.m h) (fun r820 M820 t H1 locs ht hvm hw hB hz1 hk1 hS => ?_)
          have hB1 : va_P D vwCl (fmP cI cJ am M820) H1 := by rw [← ht]; exact hB
          have hP820 := lm_P.m hC hP816 hB1 hk1
          clear hB hB1 hk1 hz1 hvm ht t
          obtain ⟨hr820, hi820⟩ := hw
          refine lv_icmp_eq (tgt := 828) hx hb dL_law_823 (by decide) (fun _ => ?_) (fun h => absurd (hr816.trans hr820.symm) h)
          refine hw_wd (k := 78 + (j + 1)) (n := 2615 + 6 * (j + 1)) (by omega) (by omega) ?_
          exact KB (o_clear α).2 M816 M820 fo d0 (Nat.le_trans (an_clear α) (Nat.succ_le_succ hra)) hi816 hi820 hd0 H1 locs hP820 hS ls (lv_sub hl [0, 1, 2, 3, 4] rfl)
