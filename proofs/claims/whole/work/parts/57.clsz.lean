/-! ===== steps that tell ===== -/
theorem IsEnds.ex {n : Nat} {F : zF} {dep : Nat → Nat} {B : Int} (hw : WF n F dep B) {k : Nat} (hk : k < n) (hkt : F k 1 = 1) : ∃ E : Int → Int, IsEnds n F k dep B E := by
  have key : ∀ d : Int, ∃ e : Int, 0 ≤ d → d ≤ 60 → WF n (flast F k d) dep B ∧ ∃ len st sl dp : Int → Int, IsLen n (flast F k d) len ∧ IsTm n (flast F k d) len st sl dp ∧ len 0 = e := fun d => by
    by_cases c : 0 ≤ d ∧ d ≤ 60
    · have w := hw.lst hk hkt (Int.le_refl B) c
      obtain ⟨len, st, sl, dp, hl, ht⟩ := plan_ex w
      exact ⟨len 0, fun _ _ => ⟨w, len, st, sl, dp, hl, ht, rfl⟩⟩
    · exact ⟨0, fun a b => absurd ⟨a, b⟩ c⟩
  exact ⟨fun d => Classical.choose (key d), fun d h0 h1 => Classical.choose_spec (key d) h0 h1⟩
theorem IsCuts.ex {n : Nat} {F : zF} {dep : Nat → Nat} {B : Int} (hw : WF n F dep B) : ∃ C : Nat → Int, IsCuts n F dep B C := by
  have key : ∀ k : Nat, ∃ e : Int, k < n → F k 1 = 1 → 0 < F k 5 → WF n (flast F k (F k 5 - 1)) dep B ∧ ∃ len st sl dp : Int → Int, IsLen n (flast F k (F k 5 - 1)) len ∧ IsTm n (flast F k (F k 5 - 1)) len st sl dp ∧ len 0 = e := fun k => by
    by_cases c : k < n ∧ F k 1 = 1 ∧ 0 < F k 5
    · have b := hw.2.2.2.1 k c.1
      have w := hw.lst c.1 c.2.1 (Int.le_refl B) (d := F k 5 - 1) (by omega)
      obtain ⟨len, st, sl, dp, hl, ht⟩ := plan_ex w
      exact ⟨len 0, fun _ _ _ => ⟨w, len, st, sl, dp, hl, ht, rfl⟩⟩
    · exact ⟨0, fun a b d => absurd ⟨a, b, d⟩ c⟩
  exact ⟨fun k => Classical.choose (key k), fun k a b d => Classical.choose_spec (key k) a b d⟩
theorem IsChild.uniq {h : zH} {T n : Nat} {F : zF} {ad dl : Int} {ar q : Nat → Nat} (hC : CT h T n F ad dl ar q) {dep : Nat → Nat} {B : Int} (hw : WF n F dep B) {g r p c c' : Int} (hg : 0 ≤ g) (h1 : IsChild n F g r p 0 c) (h2 : IsChild n F g r p 0 c') : c = c' := by
  have one : ∀ k : Nat, k < n → F k 2 = g → ∃ i, 1 ≤ i ∧ i < n ∧ q i = k := fun k hk e => by
    obtain ⟨i, hi, ei⟩ := hC.onto hk
    refine ⟨i, ?_, hi, ei⟩
    by_cases c : i = 0
    · subst c
      rw [hC.q0] at ei
      subst ei
      have := hw.2.1.2.2.1
      have e9 : F ((0 : Nat) : Int) 2 = F 0 2 := rfl
      omega
    · omega
  rcases h1 with ⟨k, -, hk, ⟨a, b⟩, d, e⟩ | ⟨e, no⟩
  · rcases h2 with ⟨k', -, hk', ⟨a', b'⟩, d', e'⟩ | ⟨e', no'⟩
    · obtain ⟨i, i1, hi, ei⟩ := one k hk a
      obtain ⟨j, j1, hj, ej⟩ := one k' hk' a'
      have u := hC.2.2.2.2.2.uniq i1 hi j1 hj (by rw [ei, ej]; omega) (by rw [ei, ej]; omega) (by rw [ei, ej]; omega)
      subst u
      have : k = k' := ei.symm.trans ej
      subst this
      omega
    · exact absurd ⟨⟨a, b⟩, d⟩ (no' k (Nat.zero_le _) hk)
  · rcases h2 with ⟨k', -, hk', ⟨a', b'⟩, d', e'⟩ | ⟨e', no'⟩
    · exact absurd ⟨⟨a', b'⟩, d'⟩ (no k' (Nat.zero_le _) hk')
    · omega
def OSt (mL mX : zM) (as : List zV) (h : zH) (q : Nat) : Prop := ∃ (h1 h2 : zH) (code r : Int), Ev mL 0 (zargs 0 (zr (some 0) :: (as ++ [zr (some 271)]))) [] h (0, 0) (.inl (some (zi code)), h1) ∧ Ev mX 0 (zargs 0 (zr (some 260) :: as)) [] h1 (0, 0) (.inl (some (zi r)), h2) ∧ (h2.2.1 260 2 = code ∧ (code = 0 → h2.2.1 271 0 = r)) ∧ RLn h2 (q + 21) ∧ (∀ o, 272 ≤ o → h2.2.1 o = h.2.1 o) ∧ h1.1 = KK ∧ ∀ o, 272 ≤ o → h1.2.1 o = h.2.1 o
def OS0 (wr : Int → zV) (m6 m7 : zM) (h : zH) (q : Nat) : Prop := ∃ (h1 h2 : zH) (r : Int), Ev m6 0 [(0, zr (some 0))] [] h (0, 0) (.inl (some (wr r)), h1) ∧ Ev m7 0 [(0, zr (some 260))] [] h1 (0, 0) (.inl (some (wr r)), h2) ∧ RLn h2 (q + 21) ∧ (∀ o, 272 ≤ o → h2.2.1 o = h.2.1 o) ∧ h1.1 = KK
section OSX
variable {mL mX : zM} {as : List zV} {h : zH} {q : Nat} {σ : Nat → Nat} {cnt : Nat} {t : Int → Int} {L : Nat} {S : Nat → Nat × zF × Int × Int} {n : Nat} {F : zF} {ad dl : Int}
theorem RLx.rl {h : zH} (r : RLx h q σ cnt t L S n F ad dl) {q' : Nat} (e : q ≤ q') : RLn h q' := ⟨σ, cnt, t, L, S, n, F, ad, dl, r.mono e⟩
theorem OSt.no (r : RLx h q σ cnt t L S n F ad dl) {I2 : Nat → Int → Int} {code : Int} (hL : Ev mL 0 (zargs 0 (zr (some 0) :: (as ++ [zr (some 271)]))) [] h (0, 0) (.inl (some (zi code)), h)) (hM : Ev mX 0 (zargs 0 (zr (some 260) :: as)) [] (h.1, zrw h.2.1 F, h.2.2) (0, 0) (.inl (some (zi 0)), (h.1, zrw I2 F, h.2.2))) (e : RfK h.2.1 I2) (ec : I2 260 2 = code) (hc : code ≠ 0) : OSt mL mX as h q := by
  rw [r.2.2.2.2.2.get.2.2.2] at hM
  exact ⟨h, (h.1, zrw I2 F, h.2.2), code, 0, hL, hM, ⟨(congrFun (zrw_o I2 F (by decide)) 2).trans ec, fun g => absurd g hc⟩, (r.quiet e).rl (by omega), fun o ho => (zrw_o I2 F (by omega)).trans (e.1.1 o (Or.inr (by omega))), r.2.2.2.1.1, fun _ _ => rfl⟩
theorem OSt.yes {h1 : zH} (r : RLx h1 q σ cnt t L S n F ad dl) {I2 : Nat → Int → Int} {v : Int} (hL : Ev mL 0 (zargs 0 (zr (some 0) :: (as ++ [zr (some 271)]))) [] h (0, 0) (.inl (some (zi 0)), (h1.1, zup h1.2.1 271 0 v, h1.2.2))) (hM : Ev mX 0 (zargs 0 (zr (some 260) :: as)) [] (h1.1, zrw (zup h1.2.1 271 0 v) F, h1.2.2) (0, 0) (.inl (some (zi v)), (h1.1, zrw I2 F, h1.2.2))) (e : RfK (zup h1.2.1 271 0 v) I2) (ec : I2 260 2 = 0) (fr : ∀ o, 272 ≤ o → h1.2.1 o = h.2.1 o) : OSt mL mX as h q := by
  have r2 := r.out v
  rw [r2.2.2.2.2.2.get.2.2.2] at hM
  refine ⟨_, (h1.1, zrw I2 F, h1.2.2), 0, v, hL, hM, ⟨(congrFun (zrw_o I2 F (by decide)) 2).trans ec, fun _ => ?_⟩, (r2.quiet e).rl (by omega), fun o ho => (zrw_o I2 F (by omega)).trans ((e.1.1 o (Or.inr (by omega))).trans ((funext fun x => zup_o _ _ _ _ (by omega)).trans (fr o ho))), r.2.2.2.1.1, fun o ho => (funext fun x => zup_o _ _ _ _ (by omega)).trans (fr o ho)⟩
  show zrw I2 F 271 0 = v
  rw [zrw_o _ _ (by decide), e.1.1 271 (Or.inr (by decide))]
  exact zup_s _ _ _ _
theorem OS0.yes {wr : Int → zV} {m6 m7 : zM} (r : RLx h q σ cnt t L S n F ad dl) {I2 : Nat → Int → Int} {v : Int} (hL : Ev m6 0 [(0, zr (some 0))] [] h (0, 0) (.inl (some (wr v)), h)) (hM : Ev m7 0 [(0, zr (some 260))] [] (h.1, zrw h.2.1 F, h.2.2) (0, 0) (.inl (some (wr v)), (h.1, zrw I2 F, h.2.2))) (e : RfK h.2.1 I2) : OS0 wr m6 m7 h q := by
  rw [r.2.2.2.2.2.get.2.2.2] at hM
  exact ⟨h, (h.1, zrw I2 F, h.2.2), v, hL, hM, (r.quiet e).rl (by omega), fun o ho => (zrw_o I2 F (by omega)).trans (e.1.1 o (Or.inr (by omega))), r.2.2.2.1.1⟩
end OSX
theorem st_node {h : zH} {q : Nat} (hRL : RLn h q) (hq : q ≤ 10800) {a b : Int} : OSt M_L_node M_X7_node [zi a, zi b] h q := by
  obtain ⟨σ, cnt, t, L, S, n, F, ad, dl, r⟩ := hRL
  have r0 := r
  obtain ⟨⟨hS, ar, qq, len, st, sl, dp, hC, hl, ht, hP⟩, ⟨hG9, hGS⟩, hb, hR, hK, hc⟩ := r0
  have hG : Gd q n F ad dl := hG9
  have hG' := hG
  obtain ⟨⟨dep, hw⟩, hN, hA, hd⟩ := hG'
  have hB : 24 * (60 + 99 * (q : Int)) ≤ 1000000000 := by omega
  have hn24 : n ≤ 24 := hC.n24
  have c0 := hc.get
  have h0 : h.1[0]? = some (3, 0) := zk_at hR.1 rfl
  have ho : h.1[271]? = some (9, 1) := zk_at hR.1 rfl
  have cv : ∀ v : Int, (zup h.2.1 271 0 v) 261 0 = n ∧ (zup h.2.1 271 0 v) 261 1 = ad ∧ (zup h.2.1 271 0 v) 261 2 = dl := fun v => by
    have := (r.out v).2.2.2.2.2.get
    exact ⟨this.1, this.2.1, this.2.2.1⟩
  by_cases hz : zpos n F a = -1
  · have km := s_node_no (h := h) (I := h.2.1) (F := F) hR c0.1 hn24 (x := a) (w := b) (by rw [if_pos hz]; decide)
    rw [if_pos hz] at km
    exact OSt.no r (sL_node_x0 h0 (sX_node_x0 hS hC hw hB hl ht hP hz)) km (RfK.th _ _) (zup_s _ _ _ _) (by decide)
  obtain ⟨k, hzk, hk, hk0⟩ := zpos_ok hz
  by_cases h2 : 0 ≤ b ∧ b ≤ 12
  rotate_left
  · have km := s_node_no (h := h) (I := h.2.1) (F := F) hR c0.1 hn24 (x := a) (w := b) (by rw [if_neg hz, if_neg h2]; decide)
    rw [if_neg hz, if_neg h2] at km
    exact OSt.no r (sL_node_x1 h0 (sX_node_x1 hS hC hw hB hl ht hP hzk h2)) km (RfK.th _ _) (zup_s _ _ _ _) (by decide)
  obtain ⟨I2, e, km⟩ := s_node (h := h) (I := zup h.2.1 271 0 (mnode n F len st sl dp k b)) (F := F) hR (cv _).1 hn24 hw hB hl ht hzk h2
  exact OSt.yes r (sL_node h0 ho (sX_node hS hC hw hB hl ht hP hzk h2)) km e.keep.rf e.keep.th (fun _ _ => rfl)
theorem st_row {h : zH} {q : Nat} (hRL : RLn h q) (hq : q ≤ 10800) {a b c : Int} : OSt M_L_row M_X7_row [zi a, zi b, zi c] h q := by
  obtain ⟨σ, cnt, t, L, S, n, F, ad, dl, r⟩ := hRL
  have r0 := r
  obtain ⟨⟨hS, ar, qq, len, st, sl, dp, hC, hl, ht, hP⟩, ⟨hG9, hGS⟩, hb, hR, hK, hc⟩ := r0
  have hG : Gd q n F ad dl := hG9
  have hG' := hG
  obtain ⟨⟨dep, hw⟩, hN, hA, hd⟩ := hG'
  have hB : 24 * (60 + 99 * (q : Int)) ≤ 1000000000 := by omega
  have hn24 : n ≤ 24 := hC.n24
  have c0 := hc.get
  have h0 : h.1[0]? = some (3, 0) := zk_at hR.1 rfl
  have ho : h.1[271]? = some (9, 1) := zk_at hR.1 rfl
  have cv : ∀ v : Int, (zup h.2.1 271 0 v) 261 0 = n ∧ (zup h.2.1 271 0 v) 261 1 = ad ∧ (zup h.2.1 271 0 v) 261 2 = dl := fun v => by
    have := (r.out v).2.2.2.2.2.get
    exact ⟨this.1, this.2.1, this.2.2.1⟩
  by_cases hz : zpos n F a = -1
  · have e1 : wRow n F a (bRw b c) = 1 := if_pos hz
    have km := s_row_no (h := h) (I := h.2.1) (F := F) hR c0.1 hn24 (gr := a) (r := b) (w := c) (by rw [e1]; decide)
    rw [e1] at km
    exact OSt.no r (sL_row_x0 h0 (sX_row_x0 hS hC hw hB hl ht hP hz)) km (RfK.th _ _) (zup_s _ _ _ _) (by decide)
  obtain ⟨k, hzk, hk, hk0⟩ := zpos_ok hz
  have b1 := (hw.2.2.2.1 k hk).1
  by_cases h2 : (0 ≤ b ∧ b ≤ 3) ∧ 0 ≤ c ∧ c ≤ 3
  rotate_left
  · have e0 : bRw b c = 0 := if_neg h2
    have e1 : wRow n F a (bRw b c) = 2 := by
      unfold wRow
      rw [if_neg hz, if_pos e0]
    have km := s_row_no (h := h) (I := h.2.1) (F := F) hR c0.1 hn24 (gr := a) (r := b) (w := c) (by rw [e1]; decide)
    rw [e1] at km
    exact OSt.no r (sL_row_x1 h0 (sX_row_x1 hS hC hw hB hl ht hP hzk h2)) km (RfK.th _ _) (zup_s _ _ _ _) (by decide)
  have e0 : bRw b c = 1 := if_pos h2
  by_cases h4 : F k 1 = 1
  · have e1 : wRow n F a (bRw b c) = 3 := by
      unfold wRow
      rw [if_neg hz, if_neg (by omega), hzk, if_pos h4]
    have km := s_row_no (h := h) (I := h.2.1) (F := F) hR c0.1 hn24 (gr := a) (r := b) (w := c) (by rw [e1]; decide)
    rw [e1] at km
    exact OSt.no r (sL_row_x2 h0 (sX_row_x2 hS hC hw hB hl ht hP hzk h2 h4)) km (RfK.th _ _) (zup_s _ _ _ _) (by decide)
  have e1 : wRow n F a 1 = 0 := by
    unfold wRow
    rw [if_neg hz, if_neg (by decide), hzk, if_neg h4]
  obtain ⟨I2, e, km⟩ := s_row (h := h) (I := zup h.2.1 271 0 (mrow n F len sl k a b c)) (F := F) hR (cv _).1 hn24 hw hB hl ht hzk h2.1 h2.2 e1
  exact OSt.yes r (sL_row h0 ho (sX_row hS hC hw hB hl ht hP hzk h2 (by omega))) km e.keep.rf e.keep.th (fun _ _ => rfl)
theorem st_child {h : zH} {q : Nat} (hRL : RLn h q) (hq : q ≤ 10800) {a b c : Int} : OSt M_L_child M_X7_child [zi a, zi b, zi c] h q := by
  obtain ⟨σ, cnt, t, L, S, n, F, ad, dl, r⟩ := hRL
  have r0 := r
  obtain ⟨⟨hS, ar, qq, len, st, sl, dp, hC, hl, ht, hP⟩, ⟨hG9, hGS⟩, hb, hR, hK, hc⟩ := r0
  have hG : Gd q n F ad dl := hG9
  have hG' := hG
  obtain ⟨⟨dep, hw⟩, hN, hA, hd⟩ := hG'
  have hB : 24 * (60 + 99 * (q : Int)) ≤ 1000000000 := by omega
  have hn24 : n ≤ 24 := hC.n24
  have c0 := hc.get
  have h0 : h.1[0]? = some (3, 0) := zk_at hR.1 rfl
  have ho : h.1[271]? = some (9, 1) := zk_at hR.1 rfl
  have cv : ∀ v : Int, (zup h.2.1 271 0 v) 261 0 = n ∧ (zup h.2.1 271 0 v) 261 1 = ad ∧ (zup h.2.1 271 0 v) 261 2 = dl := fun v => by
    have := (r.out v).2.2.2.2.2.get
    exact ⟨this.1, this.2.1, this.2.2.1⟩
  by_cases hz : zpos n F a = -1
  · have e1 : wRow n F a (bCh b c) = 1 := if_pos hz
    have km := s_child_no (h := h) (I := h.2.1) (F := F) hR c0.1 hn24 (gr := a) (r := b) (pl := c) (by rw [e1]; decide)
    rw [e1] at km
    exact OSt.no r (sL_child_x0 h0 (sX_child_x0 hS hC hw hB hl ht hP hz)) km (RfK.th _ _) (zup_s _ _ _ _) (by decide)
  obtain ⟨k, hzk, hk, hk0⟩ := zpos_ok hz
  have b1 := (hw.2.2.2.1 k hk).1
  by_cases h2 : (0 ≤ b ∧ b ≤ 3) ∧ 0 ≤ c
  rotate_left
  · have e0 : bCh b c = 0 := if_neg h2
    have e1 : wRow n F a (bCh b c) = 2 := by
      unfold wRow
      rw [if_neg hz, if_pos e0]
    have km := s_child_no (h := h) (I := h.2.1) (F := F) hR c0.1 hn24 (gr := a) (r := b) (pl := c) (by rw [e1]; decide)
    rw [e1] at km
    exact OSt.no r (sL_child_x1 h0 (sX_child_x1 hS hC hw hB hl ht hP hzk h2)) km (RfK.th _ _) (zup_s _ _ _ _) (by decide)
  have e0 : bCh b c = 1 := if_pos h2
  by_cases h4 : F k 1 = 1
  · have e1 : wRow n F a (bCh b c) = 3 := by
      unfold wRow
      rw [if_neg hz, if_neg (by omega), hzk, if_pos h4]
    have km := s_child_no (h := h) (I := h.2.1) (F := F) hR c0.1 hn24 (gr := a) (r := b) (pl := c) (by rw [e1]; decide)
    rw [e1] at km
    exact OSt.no r (sL_child_x2 h0 (sX_child_x2 hS hC hw hB hl ht hP hzk h2 h4)) km (RfK.th _ _) (zup_s _ _ _ _) (by decide)
  have e1 : wRow n F a 1 = 0 := by
    unfold wRow
    rw [if_neg hz, if_neg (by decide), hzk, if_neg h4]
  obtain ⟨cc, hcc, -⟩ := s_child (h := h) (I := h.2.1) (F := F) hR c0.1 hn24 h2.1 h2.2 e1
  obtain ⟨cc2, hcc2, km⟩ := s_child (h := h) (I := zup h.2.1 271 0 cc) (F := F) hR (cv _).1 hn24 h2.1 h2.2 e1
  have hu := hcc.uniq hC hw (by rw [← hk0]; exact hw.nn hk) hcc2
  subst hu
  exact OSt.yes r (sL_child h0 ho (sX_child hS hC hw hB hl ht hP hzk h2 (by omega) hcc)) km (RfK.th _ _) (zup_s _ _ _ _) (fun _ _ => rfl)
theorem st_critical {h : zH} {q : Nat} (hRL : RLn h q) (hq : q ≤ 10800) {a : Int} : OSt M_L_critical M_X7_critical [zi a] h q := by
  obtain ⟨σ, cnt, t, L, S, n, F, ad, dl, r⟩ := hRL
  have r0 := r
  obtain ⟨⟨hS, ar, qq, len, st, sl, dp, hC, hl, ht, hP⟩, ⟨hG9, hGS⟩, hb, hR, hK, hc⟩ := r0
  have hG : Gd q n F ad dl := hG9
  have hG' := hG
  obtain ⟨⟨dep, hw⟩, hN, hA, hd⟩ := hG'
  have hB : 24 * (60 + 99 * (q : Int)) ≤ 1000000000 := by omega
  have hn24 : n ≤ 24 := hC.n24
  have c0 := hc.get
  have h0 : h.1[0]? = some (3, 0) := zk_at hR.1 rfl
  have ho : h.1[271]? = some (9, 1) := zk_at hR.1 rfl
  have cv : ∀ v : Int, (zup h.2.1 271 0 v) 261 0 = n ∧ (zup h.2.1 271 0 v) 261 1 = ad ∧ (zup h.2.1 271 0 v) 261 2 = dl := fun v => by
    have := (r.out v).2.2.2.2.2.get
    exact ⟨this.1, this.2.1, this.2.2.1⟩
  by_cases h2 : 0 ≤ a
  rotate_left
  · have km := s_critical_no (h := h) (I := h.2.1) (F := F) hR c0.1 hn24 (t := a) (by omega)
    exact OSt.no r (sL_critical_x1 h0 (sX_critical_x1 hS hC hw hB hl ht hP h2)) km (RfK.th _ _) (zup_s _ _ _ _) (by decide)
  obtain ⟨mm, A, hcr⟩ := CritTo.ex F st sl n
  obtain ⟨I2, m2, A2, e, hcr2, km⟩ := s_critical (h := h) (I := zup h.2.1 271 0 (if a < mm then F (A a.toNat) 0 else -1)) (F := F) hR (cv _).1 hn24 hw hB hl ht h2
  have hu := hcr.uniq hcr2
  have ev : (if a < (m2 : Int) then F (A2 a.toNat) 0 else -1) = (if a < (mm : Int) then F (A a.toNat) 0 else -1) := by
    rw [← hu.1]
    by_cases c : a < (mm : Int)
    · rw [if_pos c, if_pos c, hu.2 a.toNat (by omega)]
    · rw [if_neg c, if_neg c]
  rw [ev] at km
  exact OSt.yes r (sL_critical h0 ho (sX_critical hS hC hw hB hl ht hP hcr h2)) km e.rf e.th (fun _ _ => rfl)
theorem st_running {h : zH} {q : Nat} (hRL : RLn h q) (hq : q ≤ 10800) {a : Int} : OSt M_L_running M_X7_running [zi a] h q := by
  obtain ⟨σ, cnt, t, L, S, n, F, ad, dl, r⟩ := hRL
  have r0 := r
  obtain ⟨⟨hS, ar, qq, len, st, sl, dp, hC, hl, ht, hP⟩, ⟨hG9, hGS⟩, hb, hR, hK, hc⟩ := r0
  have hG : Gd q n F ad dl := hG9
  have hG' := hG
  obtain ⟨⟨dep, hw⟩, hN, hA, hd⟩ := hG'
  have hB : 24 * (60 + 99 * (q : Int)) ≤ 1000000000 := by omega
  have hn24 : n ≤ 24 := hC.n24
  have c0 := hc.get
  have h0 : h.1[0]? = some (3, 0) := zk_at hR.1 rfl
  have ho : h.1[271]? = some (9, 1) := zk_at hR.1 rfl
  have cv : ∀ v : Int, (zup h.2.1 271 0 v) 261 0 = n ∧ (zup h.2.1 271 0 v) 261 1 = ad ∧ (zup h.2.1 271 0 v) 261 2 = dl := fun v => by
    have := (r.out v).2.2.2.2.2.get
    exact ⟨this.1, this.2.1, this.2.2.1⟩
  by_cases h2 : 0 ≤ a
  rotate_left
  · have km := s_running_no (h := h) (I := h.2.1) (F := F) hR c0.1 hn24 (t := a) (by omega)
    exact OSt.no r (sL_running_x1 h0 (sX_running_x1 hS hC hw hB hl ht hP h2)) km (RfK.th _ _) (zup_s _ _ _ _) (by decide)
  obtain ⟨I2, e, km⟩ := s_running (h := h) (I := zup h.2.1 271 0 (mrun n F len st a)) (F := F) hR (cv _).1 hn24 hw hB hl ht h2
  exact OSt.yes r (sL_running h0 ho (sX_running hS hC hw hB hl ht hP h2)) km e.keep.rf e.keep.th (fun _ _ => rfl)
theorem st_whole {h : zH} {q : Nat} (hRL : RLn h q) (hq : q ≤ 10800) {a : Int} : OSt M_L_whole M_X7_whole [zi a] h q := by
  obtain ⟨σ, cnt, t, L, S, n, F, ad, dl, r⟩ := hRL
  have r0 := r
  obtain ⟨⟨hS, ar, qq, len, st, sl, dp, hC, hl, ht, hP⟩, ⟨hG9, hGS⟩, hb, hR, hK, hc⟩ := r0
  have hG : Gd q n F ad dl := hG9
  have hG' := hG
  obtain ⟨⟨dep, hw⟩, hN, hA, hd⟩ := hG'
  have hB : 24 * (60 + 99 * (q : Int)) ≤ 1000000000 := by omega
  have hn24 : n ≤ 24 := hC.n24
  have c0 := hc.get
  have h0 : h.1[0]? = some (3, 0) := zk_at hR.1 rfl
  have ho : h.1[271]? = some (9, 1) := zk_at hR.1 rfl
  have cv : ∀ v : Int, (zup h.2.1 271 0 v) 261 0 = n ∧ (zup h.2.1 271 0 v) 261 1 = ad ∧ (zup h.2.1 271 0 v) 261 2 = dl := fun v => by
    have := (r.out v).2.2.2.2.2.get
    exact ⟨this.1, this.2.1, this.2.2.1⟩
  by_cases h2 : 0 ≤ a ∧ a ≤ 11
  rotate_left
  · have km := s_whole_no (h := h) (I := h.2.1) (F := F) hR c0.1 hn24 (w := a) h2
    exact OSt.no r (sL_whole_x1 h0 (sX_whole_x1 hS hC hw hB hl ht hP h2)) km (RfK.th _ _) (zup_s _ _ _ _) (by decide)
  obtain ⟨mm, A, hcr⟩ := CritTo.ex F st sl n
  obtain ⟨I2, e, -, km⟩ := s_whole (h := h) (I := zup h.2.1 271 0 (mwh n F len st sl dl ad mm (L : Int) a)) (F := F) hR (cv _).1 hn24 hw hB hl ht (cv _).2.2 hd (cv _).2.1 (lg := (L : Int)) (((zup_o _ _ _ _ (by decide)).trans hK.2.1.1)) hcr h2
  exact OSt.yes r (sL_whole h0 ho (sX_whole hS hC hw hB hl ht hP hd hcr h2)) km e.rf e.th (fun _ _ => rfl)
theorem st_endWith {h : zH} {q : Nat} (hRL : RLn h q) (hq : q ≤ 10800) {a b : Int} : OSt M_L_endWith M_X7_endWith [zi a, zi b] h q := by
  obtain ⟨σ, cnt, t, L, S, n, F, ad, dl, r⟩ := hRL
  have r0 := r
  obtain ⟨⟨hS, ar, qq, len, st, sl, dp, hC, hl, ht, hP⟩, ⟨hG9, hGS⟩, hb, hR, hK, hc⟩ := r0
  have hG : Gd q n F ad dl := hG9
  have hG' := hG
  obtain ⟨⟨dep, hw⟩, hN, hA, hd⟩ := hG'
  have hB : 24 * (60 + 99 * (q : Int)) ≤ 1000000000 := by omega
  have hn24 : n ≤ 24 := hC.n24
  have c0 := hc.get
  have h0 : h.1[0]? = some (3, 0) := zk_at hR.1 rfl
  have ho : h.1[271]? = some (9, 1) := zk_at hR.1 rfl
  have cv : ∀ v : Int, (zup h.2.1 271 0 v) 261 0 = n ∧ (zup h.2.1 271 0 v) 261 1 = ad ∧ (zup h.2.1 271 0 v) 261 2 = dl := fun v => by
    have := (r.out v).2.2.2.2.2.get
    exact ⟨this.1, this.2.1, this.2.2.1⟩
  by_cases hz : zpos n F a = -1
  · have e1 : wTask n F a (if 0 ≤ b ∧ b ≤ 60 then 1 else 0) = 1 := if_pos hz
    have km := s_endWith_no (h := h) (I := h.2.1) (F := F) hR c0.1 hn24 (x := a) (d := b) (by rw [e1]; decide)
    rw [e1] at km
    exact OSt.no r (sL_endWith_x0 h0 (sX_endWith_x0 hS hC hw hB hl ht hP hz)) km (RfK.th _ _) (zup_s _ _ _ _) (by decide)
  obtain ⟨k, hzk, hk, hk0⟩ := zpos_ok hz
  have b1 := hw.2.2.2.1 k hk
  by_cases h2 : 0 ≤ b ∧ b ≤ 60
  rotate_left
  · have e1 : wTask n F a (if 0 ≤ b ∧ b ≤ 60 then 1 else 0) = 2 := by
      rw [if_neg h2]; exact wTask_r hz
    have km := s_endWith_no (h := h) (I := h.2.1) (F := F) hR c0.1 hn24 (x := a) (d := b) (by rw [e1]; decide)
    rw [e1] at km
    exact OSt.no r (sL_endWith_x1 h0 (sX_endWith_x1 hS hC hw hB hl ht hP hzk h2)) km (RfK.th _ _) (zup_s _ _ _ _) (by decide)
  by_cases h4 : F k 1 = 1
  rotate_left
  · have e1 : wTask n F a (if 0 ≤ b ∧ b ≤ 60 then 1 else 0) = 3 := by
      rw [if_pos h2]; exact wTask_g hzk hk0 h4
    have km := s_endWith_no (h := h) (I := h.2.1) (F := F) hR c0.1 hn24 (x := a) (d := b) (by rw [e1]; decide)
    rw [e1] at km
    exact OSt.no r (sL_endWith_x2 h0 (sX_endWith_x2 hS hC hw hB hl ht hP hzk h2 (by omega))) km (RfK.th _ _) (zup_s _ _ _ _) (by decide)
  have e1 : wTask n F a (if 0 ≤ b ∧ b ≤ 60 then 1 else 0) = 0 := by
    rw [if_pos h2]; exact wTask_t hzk hk0 h4
  have hw9 := hw.lst hk h4 (Int.le_refl _) h2
  obtain ⟨len9, st9, sl9, dp9, hl9, ht9⟩ := plan_ex hw9
  obtain ⟨I2, e, km⟩ := s_endWith (h := h) (I := zup h.2.1 271 0 (len9 0)) (F := F) hR (cv _).1 hn24 hzk ⟨b1.2.1, by have := b1.2.2.1; omega⟩ hw9 hB hl9 ht9 e1
  exact OSt.yes r (sL_endWith h0 ho (sX_endWith hS hC hw hB hl ht hP hzk h2 h4 hw9 hB hl9)) km e.rf e.th (fun _ _ => rfl)
theorem st_growsTo {h : zH} {q : Nat} (hRL : RLn h q) (hq : q ≤ 10800) {a : Int} : OSt M_L_growsTo M_X7_growsTo [zi a] h q := by
  obtain ⟨σ, cnt, t, L, S, n, F, ad, dl, r⟩ := hRL
  have r0 := r
  obtain ⟨⟨hS, ar, qq, len, st, sl, dp, hC, hl, ht, hP⟩, ⟨hG9, hGS⟩, hb, hR, hK, hc⟩ := r0
  have hG : Gd q n F ad dl := hG9
  have hG' := hG
  obtain ⟨⟨dep, hw⟩, hN, hA, hd⟩ := hG'
  have hB : 24 * (60 + 99 * (q : Int)) ≤ 1000000000 := by omega
  have hn24 : n ≤ 24 := hC.n24
  have c0 := hc.get
  have h0 : h.1[0]? = some (3, 0) := zk_at hR.1 rfl
  have ho : h.1[271]? = some (9, 1) := zk_at hR.1 rfl
  have cv : ∀ v : Int, (zup h.2.1 271 0 v) 261 0 = n ∧ (zup h.2.1 271 0 v) 261 1 = ad ∧ (zup h.2.1 271 0 v) 261 2 = dl := fun v => by
    have := (r.out v).2.2.2.2.2.get
    exact ⟨this.1, this.2.1, this.2.2.1⟩
  by_cases hz : zpos n F a = -1
  · have e0 : wTask n F a 1 = 1 := if_pos hz
    have e1 : (if wTask n F a 1 = 3 then 2 else wTask n F a 1) = 1 := by rw [e0]; rfl
    have km := s_growsTo_no (h := h) (I := h.2.1) (F := F) hR c0.1 hn24 (x := a) (by rw [e1]; decide)
    rw [e1] at km
    exact OSt.no r (sL_growsTo_x0 h0 (sX_growsTo_x0 hS hC hw hB hl ht hP hz)) km (RfK.th _ _) (zup_s _ _ _ _) (by decide)
  obtain ⟨k, hzk, hk, hk0⟩ := zpos_ok hz
  have b1 := hw.2.2.2.1 k hk
  by_cases h4 : F k 1 = 1
  rotate_left
  · have e0 : wTask n F a 1 = 3 := wTask_g hzk hk0 h4
    have e1 : (if wTask n F a 1 = 3 then 2 else wTask n F a 1) = 2 := by rw [e0]; rfl
    have km := s_growsTo_no (h := h) (I := h.2.1) (F := F) hR c0.1 hn24 (x := a) (by rw [e1]; decide)
    rw [e1] at km
    exact OSt.no r (sL_growsTo_x2 h0 (sX_growsTo_x2 hS hC hw hB hl ht hP hzk (by omega))) km (RfK.th _ _) (zup_s _ _ _ _) (by decide)
  have e1 : wTask n F a 1 = 0 := wTask_t hzk hk0 h4
  obtain ⟨E, hE⟩ := IsEnds.ex hw hk h4
  have hd0 : (0 ≤ F k 5 ∧ F k 5 ≤ 60) ∧ E (F k 5) ≤ len 0 := ⟨b1.2.1, by rw [hE.own hw hl hk]; exact Int.le_refl _⟩
  have hb5 : (0 ≤ F k 5 ∧ F k 5 ≤ 60) ∧ 0 ≤ F k 6 ∧ F k 6 ≤ 1000000000 := ⟨b1.2.1, by have := b1.2.2.1; omega⟩
  obtain ⟨-, g, -, hg, -⟩ := s_growsTo (h := h) (I := h.2.1) (F := F) hR c0.1 hn24 hw hB hl ht hzk hb5 hE hd0 e1
  obtain ⟨I2, g2, e, hg2, km⟩ := s_growsTo (h := h) (I := zup h.2.1 271 0 g) (F := F) hR (cv _).1 hn24 hw hB hl ht hzk hb5 hE hd0 e1
  have hu : g = g2 := by
    rcases Int.lt_trichotomy g g2 with c | c | c
    · have := hg.2.2.2 g2 c hg2.2.1
      have := hg2.2.2.1
      omega
    · exact c
    · have := hg2.2.2.2 g c hg.2.1
      have := hg.2.2.1
      omega
  subst hu
  exact OSt.yes r (sL_growsTo h0 ho (sX_growsTo hS hC hw hB hl ht hP hzk h4 hB hE ⟨hg.1, hg.2.1⟩ hg.2.2)) km e.rf e.th (fun _ _ => rfl)
theorem st_slackIf {h : zH} {q : Nat} (hRL : RLn h q) (hq : q ≤ 10800) {a b : Int} : OSt M_L_slackIf M_X7_slackIf [zi a, zi b] h q := by
  obtain ⟨σ, cnt, t, L, S, n, F, ad, dl, r⟩ := hRL
  have r0 := r
  obtain ⟨⟨hS, ar, qq, len, st, sl, dp, hC, hl, ht, hP⟩, ⟨hG9, hGS⟩, hb, hR, hK, hc⟩ := r0
  have hG : Gd q n F ad dl := hG9
  have hG' := hG
  obtain ⟨⟨dep, hw⟩, hN, hA, hd⟩ := hG'
  have hB : 24 * (60 + 99 * (q : Int)) ≤ 1000000000 := by omega
  have hn24 : n ≤ 24 := hC.n24
  have c0 := hc.get
  have h0 : h.1[0]? = some (3, 0) := zk_at hR.1 rfl
  have ho : h.1[271]? = some (9, 1) := zk_at hR.1 rfl
  have cv : ∀ v : Int, (zup h.2.1 271 0 v) 261 0 = n ∧ (zup h.2.1 271 0 v) 261 1 = ad ∧ (zup h.2.1 271 0 v) 261 2 = dl := fun v => by
    have := (r.out v).2.2.2.2.2.get
    exact ⟨this.1, this.2.1, this.2.2.1⟩
  by_cases hz : zpos n F a = -1
  · have e0 : (if zpos n F a = -1 then 1 else wTask n F b 1) = 1 := by
      exact if_pos hz
    have e1 : (if (if zpos n F a = -1 then 1 else wTask n F b 1) = 3 then 2 else (if zpos n F a = -1 then 1 else wTask n F b 1)) = 1 := by rw [e0]; rfl
    have km := s_slackIf_no (h := h) (I := h.2.1) (F := F) hR c0.1 hn24 (x := a) (y := b) (by rw [e1]; decide)
    rw [e1] at km
    exact OSt.no r (sL_slackIf_x0 h0 (sX_slackIf_x0 hS hC hw hB hl ht hP hz)) km (RfK.th _ _) (zup_s _ _ _ _) (by decide)
  obtain ⟨i, hzi, hi, hi0⟩ := zpos_ok hz
  by_cases hy : zpos n F b = -1
  · have e0 : (if zpos n F a = -1 then 1 else wTask n F b 1) = 1 := by
      rw [if_neg hz]; exact if_pos hy
    have e1 : (if (if zpos n F a = -1 then 1 else wTask n F b 1) = 3 then 2 else (if zpos n F a = -1 then 1 else wTask n F b 1)) = 1 := by rw [e0]; rfl
    have km := s_slackIf_no (h := h) (I := h.2.1) (F := F) hR c0.1 hn24 (x := a) (y := b) (by rw [e1]; decide)
    rw [e1] at km
    exact OSt.no r (sL_slackIf_x0 h0 (sX_slackIf_y0 hS hC hw hB hl ht hP hzi hy)) km (RfK.th _ _) (zup_s _ _ _ _) (by decide)
  obtain ⟨k, hzk, hk, hk0⟩ := zpos_ok hy
  have b1 := hw.2.2.2.1 k hk
  by_cases h4 : F k 1 = 1
  rotate_left
  · have e0 : (if zpos n F a = -1 then 1 else wTask n F b 1) = 3 := by
      rw [if_neg hz]; exact wTask_g hzk hk0 h4
    have e1 : (if (if zpos n F a = -1 then 1 else wTask n F b 1) = 3 then 2 else (if zpos n F a = -1 then 1 else wTask n F b 1)) = 2 := by rw [e0]; rfl
    have km := s_slackIf_no (h := h) (I := h.2.1) (F := F) hR c0.1 hn24 (x := a) (y := b) (by rw [e1]; decide)
    rw [e1] at km
    exact OSt.no r (sL_slackIf_x2 h0 (sX_slackIf_x2 hS hC hw hB hl ht hP hzi hzk (by omega))) km (RfK.th _ _) (zup_s _ _ _ _) (by decide)
  have e1 : wTask n F b 1 = 0 := wTask_t hzk hk0 h4
  have bl := hl.bd hw 0 (by have := hC.n1; omega)
  have bm := (mtot_le hw).2
  have bs := ht.bd hw hl k hk
  have bk := hl.bd hw k hk
  have e9 : len ((0 : Nat) : Int) = len 0 := rfl
  have hw3 := hw.rsv hk h4 (B' := 99 * (q : Int) + 24 * (60 + 99 * (q : Int))) (by omega) (v := F k 6 + sl k) (by have := b1.2.2.1; omega)
  have hB3 : 24 * (60 + (99 * (q : Int) + 24 * (60 + 99 * (q : Int)))) ≤ 1000000000 := by omega
  obtain ⟨len3, st3, sl3, dp3, hl3, ht3⟩ := plan_ex hw3
  obtain ⟨I3, R3, hS3, hT3, hf3, kc⟩ := sX_slackIf hS hC hw hB hl ht hP hzi hzk h4 hw3 hB3 hl3 ht3
  have r1 : RLx (h.1, I3, R3) q σ cnt t L S n F ad dl := by
    refine ⟨⟨hS3, hT3⟩, r.2.1, r.2.2.1, hR.fr (hf3 260 (by decide)).2, ?_, fun x a b => (congrFun (hf3 261 (by decide)).1 x).trans (hc x a b)⟩
    exact ⟨(congrFun (hf3 260 (by decide)).1 1).trans hK.1, ⟨(congrFun (hf3 260 (by decide)).1 4).trans hK.2.1.1, hK.2.1.2.1, fun p hp => (congrFun (hf3 262 (by decide)).1 p).trans (hK.2.1.2.2 p hp)⟩, fun j hj x a b => (congrFun (hf3 261 (by decide)).1 _).trans (hK.2.2 j hj x a b)⟩
  have cv3 := (r1.out (sl3 i)).2.2.2.2.2.get
  obtain ⟨I2, e, km⟩ := s_slackIf (h := (h.1, I3, R3)) (I := zup I3 271 0 (sl3 i)) (F := F) r1.2.2.2.1 cv3.1 hn24 hw hB hl ht hzi hzk hw3 hB3 hl3 ht3 e1
  exact OSt.yes r1 (sL_slackIf h0 ho kc) km e.rf e.th (fun o ho => (hf3 o (by omega)).1)
theorem st_reason {h : zH} {q : Nat} (hRL : RLn h q) (hq : q ≤ 10800) {a b : Int} : OSt M_L_reason M_X7_reason [zi a, zi b] h q := by
  obtain ⟨σ, cnt, t, L, S, n, F, ad, dl, r⟩ := hRL
  have r0 := r
  obtain ⟨⟨hS, ar, qq, len, st, sl, dp, hC, hl, ht, hP⟩, ⟨hG9, hGS⟩, hb, hR, hK, hc⟩ := r0
  have hG : Gd q n F ad dl := hG9
  have hG' := hG
  obtain ⟨⟨dep, hw⟩, hN, hA, hd⟩ := hG'
  have hB : 24 * (60 + 99 * (q : Int)) ≤ 1000000000 := by omega
  have hn24 : n ≤ 24 := hC.n24
  have c0 := hc.get
  have h0 : h.1[0]? = some (3, 0) := zk_at hR.1 rfl
  have ho : h.1[271]? = some (9, 1) := zk_at hR.1 rfl
  have cv : ∀ v : Int, (zup h.2.1 271 0 v) 261 0 = n ∧ (zup h.2.1 271 0 v) 261 1 = ad ∧ (zup h.2.1 271 0 v) 261 2 = dl := fun v => by
    have := (r.out v).2.2.2.2.2.get
    exact ⟨this.1, this.2.1, this.2.2.1⟩
  by_cases hz : zpos n F a = -1
  · have km := s_reason_no (h := h) (I := h.2.1) (F := F) hR c0.1 hn24 (x := a) (gr := b) (Or.inl hz)
    exact OSt.no r (sL_reason_x0 h0 (sX_reason_x0 hS hC hw hB hl ht hP hz)) km (RfK.th _ _) (zup_s _ _ _ _) (by decide)
  obtain ⟨i, hzi, hi, hi0⟩ := zpos_ok hz
  by_cases hy : zpos n F b = -1
  · have km := s_reason_no (h := h) (I := h.2.1) (F := F) hR c0.1 hn24 (x := a) (gr := b) (Or.inr hy)
    exact OSt.no r (sL_reason_x0 h0 (sX_reason_y0 hS hC hw hB hl ht hP hzi hy)) km (RfK.th _ _) (zup_s _ _ _ _) (by decide)
  obtain ⟨k, hzk, hk, hk0⟩ := zpos_ok hy
  obtain ⟨v, hv, kc⟩ := sX_reason hS hC hw hB hl ht hP hzi hzk
  obtain ⟨v2, hv2, km⟩ := s_reason (h := h) (I := zup h.2.1 271 0 v) (F := F) hR (cv _).1 hn24 hw hz hy
  have hu := hv.uniq hv2
  subst hu
  exact OSt.yes r (sL_reason h0 ho kc) km (RfK.th _ _) (zup_s _ _ _ _) (fun _ _ => rfl)
theorem st_bestCut {h : zH} {q : Nat} (hRL : RLn h q) (hq : q ≤ 10800) : OS0 zi M_X6_bestCut M_X7_bestCut h q := by
  obtain ⟨σ, cnt, t, L, S, n, F, ad, dl, r⟩ := hRL
  have r0 := r
  obtain ⟨⟨hS, ar, qq, len, st, sl, dp, hC, hl, ht, hP⟩, ⟨hG9, hGS⟩, hb, hR, hK, hc⟩ := r0
  have hG : Gd q n F ad dl := hG9
  have hG' := hG
  obtain ⟨⟨dep, hw⟩, hN, hA, hd⟩ := hG'
  have hB : 24 * (60 + 99 * (q : Int)) ≤ 1000000000 := by omega
  have hn24 : n ≤ 24 := hC.n24
  have c0 := hc.get
  have h0 : h.1[0]? = some (3, 0) := zk_at hR.1 rfl
  have ho : h.1[271]? = some (9, 1) := zk_at hR.1 rfl
  have cv : ∀ v : Int, (zup h.2.1 271 0 v) 261 0 = n ∧ (zup h.2.1 271 0 v) 261 1 = ad ∧ (zup h.2.1 271 0 v) 261 2 = dl := fun v => by
    have := (r.out v).2.2.2.2.2.get
    exact ⟨this.1, this.2.1, this.2.2.1⟩
  obtain ⟨C, hCs⟩ := IsCuts.ex hw
  obtain ⟨I2, c, e, hc9, km⟩ := s_bestCut (h := h) (I := h.2.1) (F := F) hR c0.1 hn24 hw hB hl ht hCs
  exact OS0.yes r (sX_bestCut hS hC hw hB hl ht hP hB hCs hc9) km e.rf
theorem st_digest {h : zH} {q : Nat} (hRL : RLn h q) (hq : q ≤ 10800) : OS0 zl M_X6_digest M_X7_digest h q := by
  obtain ⟨σ, cnt, t, L, S, n, F, ad, dl, r⟩ := hRL
  have r0 := r
  obtain ⟨⟨hS, ar, qq, len, st, sl, dp, hC, hl, ht, hP⟩, ⟨hG9, hGS⟩, hb, hR, hK, hc⟩ := r0
  have hG : Gd q n F ad dl := hG9
  have hG' := hG
  obtain ⟨⟨dep, hw⟩, hN, hA, hd⟩ := hG'
  have hB : 24 * (60 + 99 * (q : Int)) ≤ 1000000000 := by omega
  have hn24 : n ≤ 24 := hC.n24
  have c0 := hc.get
  have h0 : h.1[0]? = some (3, 0) := zk_at hR.1 rfl
  have ho : h.1[271]? = some (9, 1) := zk_at hR.1 rfl
  have cv : ∀ v : Int, (zup h.2.1 271 0 v) 261 0 = n ∧ (zup h.2.1 271 0 v) 261 1 = ad ∧ (zup h.2.1 271 0 v) 261 2 = dl := fun v => by
    have := (r.out v).2.2.2.2.2.get
    exact ⟨this.1, this.2.1, this.2.2.1⟩
  obtain ⟨C, hCs⟩ := IsCuts.ex hw
  obtain ⟨mm, A, hcr⟩ := CritTo.ex F st sl n
  obtain ⟨I2, c, e, hc9, km⟩ := s_digest (h := h) (I := h.2.1) (F := F) hR c0.1 hn24 hw hB hl ht hd hcr c0.2.2.1 c0.2.1 (lg := (L : Int)) hK.2.1.1 hK.1 hCs
  exact OS0.yes r (s_digestC hS hC hw hB hl ht hP hd hcr hB hCs hc9) km e.rf
