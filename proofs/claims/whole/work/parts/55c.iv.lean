/-! PART iv: what holds of every state, behind each call -/
theorem iv.mono {t t' : Nat} {σ : ks} (I : iv t σ) (h : t ≤ t') (h' : t' ≤ 100000) : iv t' σ := by
  obtain ⟨i1, i2, i3, i4, i5⟩ := I
  exact ⟨i1, h', i3, fun b hb e => ⟨(i4 b hb e).1, Nat.le_trans (i4 b hb e).2.1 h, (i4 b hb e).2.2⟩, i5⟩
theorem iv_kb {t : Nat} {o : Option String} {σ : ks} {r : kr} (h0 : iv t σ) (h : o = none → iv t r.2.2) : iv t (kbind o σ r).2.2 := by
  cases o with
  | none => exact h rfl
  | some E => exact h0
theorem iv_kd {t : Nat} {b : Bool} {E : String} {σ : ks} {r : kr} (h0 : iv t σ) (h : b = true → iv t r.2.2) : iv t (kdem b E σ r).2.2 := by
  cases b with
  | true => exact h rfl
  | false => exact h0
/-- a base's numbers have changed, not their count -/
theorem iv.setS {t : Nat} {σ : ks} {b : Nat} {s : kS} (I : iv t σ) (hs : iv_s t (k_kd σ b) s) (h1 : s_ct s = s_ct (k_S σ b)) (h2 : s_ch s = s_ch (k_S σ b)) (h3 : k_kd σ b = 4 → s_nu s = s_nu (k_S σ b)) : iv t (k_setS σ b s) := by
  have hB : ∀ c, s_ct (k_B (k_setS σ b s) c) = s_ct (k_B σ c) ∧ s_ch (k_B (k_setS σ b s) c) = s_ch (k_B σ c) := fun c => by
    show s_ct (up1 σ.2.2.1 b s (k_bs σ c)) = _ ∧ s_ch (up1 σ.2.2.1 b s (k_bs σ c)) = _
    by_cases e : k_bs σ c = b
    · rw [e, up1_s]
      unfold k_B
      rw [e]
      exact ⟨h1, h2⟩
    · rw [up1_o _ _ e]
      exact ⟨rfl, rfl⟩
  have hz : ∀ c, c < k_m σ → k_size (k_setS σ b s) c = k_size σ c := fun c hc => by
    unfold k_size
    rw [(hB c).1]
    by_cases h7 : k_kd σ c = 7
    · have e9 : s_nu (k_B (k_setS σ b s) c) = s_nu (k_B σ c) := by
        show s_nu (up1 σ.2.2.1 b s (k_bs σ c)) = _
        by_cases e : k_bs σ c = b
        · rw [e, up1_s]
          unfold k_B
          rw [e]
          exact h3 (by rw [← e]; exact (I.cc hc).2.2.2.2.1 h7)
        · rw [up1_o _ _ e]
      rw [e9]
      rfl
    · rw [if_neg (c := k_kd (k_setS σ b s) c = 7) h7, if_neg (c := k_kd σ c = 7) h7]
      rfl
  obtain ⟨i1, i2, i3, i4, i5⟩ := I
  refine ⟨i1, i2, fun c hc => ?_, fun c hc e => ?_, fun i hi => ⟨(i5 i hi).1, fun c hc => ?_⟩⟩
  · obtain ⟨j1, j2, j3, j4, j5, j6⟩ := i3 c hc
    refine ⟨j1, j2, j3, j4, j5, fun h6 => ?_⟩
    rw [(hB c).1, (hB c).2]
    exact j6 h6
  · show iv_s t (k_kd σ c) (up1 σ.2.2.1 b s c)
    by_cases e : c = b
    · rw [e, up1_s]
      exact hs
    · rw [up1_o _ _ e]
      exact i4 c hc (by assumption)
  · obtain ⟨w1, w2, w3, w4⟩ := (i5 i hi).2 c hc
    refine ⟨w1, w2, ?_, fun hf => ?_⟩
    · rw [(hB c).2]
      exact w3
    · rw [(hB c).2, hz c w1]
      exact w4 (fun h6 => by have := hf h6; rw [(hB c).2] at this; exact this)
/-- a base that is no list has changed -/
theorem iv.setM {t t' : Nat} {σ : ks} {c : Nat} {s : kS} (I : iv t σ) (hc : c < k_m σ) (h6 : ¬ k_kd σ c = 6) (ht : t' ≤ 100000) (htt : t ≤ t') (hs : iv_s t' (k_kb σ c) s) (hch : s_ch (k_B σ c) < s_ch s) : iv t' (k_setS σ (k_bs σ c) s) := by
  rw [← k_thru_0 h6 s (fun m => m)]
  exact (I.thru hc (k_fr_0 h6) ht htt hs hch (fun a b h => h) (fun y hy => absurd hy.1 h6)).1
theorem iv_s.vl {t : Nat} {kd : Int32} {s : kS} {p : Nat} {v : Int32} (h : iv_s t kd s) : iv_s t kd (S_vl s p v) := h
theorem iv_s.nu {t : Nat} {kd : Int32} {s : kS} {p : Nat} {v : Int32} (h : iv_s t kd s) (hk : kd = 0 ∨ kd = 1) : iv_s t kd (S_nu s p v) := by
  obtain ⟨s1, s2, s3, s4, s5, s6, s7⟩ := h
  refine ⟨s1, s2, s3, s4, s5, s6, fun q => ?_⟩
  rcases hk with rfl | rfl <;> rcases q with q | q <;> exact absurd q (by decide)
theorem iv_s.use {t : Nat} {kd : Int32} {s : kS} {p : Nat} {key : Int32} (h : iv_s t kd s) : iv_s (t + 1) kd (S_use kd s p key) ∧ (S_use kd s p key = s ∨ s_ch s < s_ch (S_use kd s p key)) := by
  obtain ⟨s1, s2, s3, s4, s5, s6, s7⟩ := h
  unfold S_use
  split
  · rename_i h9
    refine ⟨⟨s1, Nat.succ_le_succ s2, s3, s4, s5, s6, fun q => ?_⟩, Or.inr (Nat.lt_succ_self _)⟩
    rw [h9.1] at q
    rcases q with q | q <;> exact absurd q (by decide)
  · exact ⟨⟨s1, Nat.le_succ_of_le s2, s3, s4, s5, s6, s7⟩, Or.inl rfl⟩
theorem iv_s.new {t : Nat} {kd : Int32} {s : kS} {key v : Int32} (h : iv_s t kd s) (hk : kd = 2 ∨ kd = 3 ∨ kd = 4) (h24 : s_ct s < 24) : iv_s (t + 2) kd (S_key kd s key v) ∧ s_ch s < s_ch (S_key kd s key v) := by
  obtain ⟨s1, s2, s3, s4, s5, s6, s7⟩ := h
  have hn0 : ¬ kd = 0 := fun q => by rw [q] at hk; exact absurd hk (by decide)
  have hn5 : ¬ kd = 5 := fun q => by rw [q] at hk; exact absurd hk (by decide)
  have b1 : 4 ≤ n_bkt kd (s_ro s) (s_ct s + 1) ∧ n_bkt kd (s_ro s) (s_ct s + 1) ≤ 64 := by
    unfold n_bkt
    split <;> omega
  have b2 : kd = 2 ∨ kd = 3 → s_ct s + 1 ≤ 24 := fun _ => h24
  have b3 : kd = 4 ∨ kd = 5 → so_t (ym_ad (s_nu s) (ym_pl kd (s_nu s) key (s_ct s)) (s_ct s) key) (s_ct s + 1) := fun q => by
    have hs := s7 q
    have q4 : kd = 4 := q.resolve_right hn5
    have e : ym_pl kd (s_nu s) key (s_ct s) = ym_cnt (ym_bel (s_nu s) key 0) (s_ct s) := if_pos q4
    rw [e]
    refine so_up hs (ym_cnt_le _ _) (fun i hi => ?_) (fun i hi hi2 => ?_)
    · have := ym_cnt_le (ym_bel (s_nu s) key 0) (s_ct s)
      exact Int32.le_of_lt ((so_lt hs (by omega)).mp hi)
    · have := mt (so_lt (x := key) hs hi2).mpr (by omega)
      exact Int32.not_lt.mp this
  unfold S_key
  split
  · rename_i h9
    refine ⟨⟨?_, ?_, b1, fun q => absurd q hn0, fun q => ?_, fun q => ?_, fun q => ?_⟩, ?_⟩
    · show s_ct s + 1 - 1 ≤ 24
      omega
    · show s_ch s + 1 + 1 ≤ t + 2
      omega
    · show s_ct s + 1 - 1 ≤ 24
      omega
    · show s_ct s + 1 - 1 ≤ 24
      omega
    · rw [h9.1] at q
      rcases q with q | q <;> exact absurd q (by decide)
    · show s_ch s < s_ch s + 1 + 1
      omega
  · rename_i h9
    refine ⟨⟨?_, ?_, b1, fun q => absurd q hn0, b2, fun q => ?_, b3⟩, Nat.lt_succ_self _⟩
    · show s_ct s + 1 ≤ 24
      omega
    · show s_ch s + 1 ≤ t + 2
      omega
    · show s_ct s + 1 ≤ 24
      omega
theorem iv.use {t : Nat} {σ : ks} {c p : Nat} {key : Int32} {s : kS} (I : iv t σ) (ht : t + 1 ≤ 100000) (hc : c < k_m σ) (h6 : ¬ k_kd σ c = 6) (hs : iv_s t (k_kb σ c) s) (h1 : s_ct s = s_ct (k_B σ c)) (h2 : s_ch s = s_ch (k_B σ c)) (h3 : s_nu s = s_nu (k_B σ c)) : iv (t + 1) (k_setS σ (k_bs σ c) (S_use (k_kb σ c) s p key)) := by
  obtain ⟨a1, a2⟩ := hs.use (p := p) (key := key)
  rcases a2 with a2 | a2
  · rw [a2]
    exact (I.setS hs h1 h2 (fun _ => h3)).mono (Nat.le_succ _) ht
  · exact I.setM hc h6 ht (Nat.le_succ _) a1 (by omega)
theorem iv.drp {t : Nat} {σ : ks} {c p : Nat} {key : Int32} (I : iv t σ) (ht : t + 1 ≤ 100000) (hc : c < k_m σ) (hk : k_ism (k_kd σ c) = true) (h : k_at σ c key = some p) : iv (t + 1) (k_take σ c p) := by
  have h6 := k_ism6 hk
  exact (I.take ht hc (k_fr_0 h6) (I.at hc h6 h).1 (fun q => absurd q h6)).1
theorem iv.sift {by_ rest : Int32} {c : Nat} : ∀ (j : Nat) {t : Nat} {σ : ks}, iv t σ → t + j ≤ 100000 → c < k_m σ → k_fr σ c → j ≤ k_size σ c → iv (t + j) (k_sift c by_ rest j σ).1
  | 0, _, _, I, _, _, _, _ => I
  | j + 1, t, σ, I, ht, hc, hf, hj => by
    have hend := I.end hc hf
    unfold k_sift
    split
    · have h9 := I.take (q := k_start σ c + j) (by omega) hc hf (by omega) (fun h6 => by rw [k_size6 h6] at hj; omega)
      have hz := (I.take_sz hc hf (j := j) (by omega)).2
      have hm : k_m (k_take σ c (k_start σ c + j)) = k_m σ := (k_thru_C I hc _ _).1
      have := iv.sift (by_ := by_) (rest := rest) (c := c) j h9.1 (by omega) (by rw [hm]; exact hc) h9.2 (by omega)
      rw [show t + (j + 1) = t + 1 + j by omega]
      exact this
    · exact (iv.sift j I (by omega) hc hf (by omega)).mono (by omega) ht
/-- a bringing in within a list -/
theorem iv.bring_sz {t : Nat} {σ : ks} {c q : Nat} {x : Int32} (I : iv t σ) (hc : c < k_m σ) (h7 : ¬ k_kd σ c = 7) : k_size (k_bring σ c q x) c = k_size σ c + 1 := by
  have hk := k_thru_k I hc (S_bring (k_kd σ (k_bs σ c)) (k_B σ c) q x 0) (fun m => m + 1) c
  have hB := k_thru_B I hc (S_bring (k_kd σ (k_bs σ c)) (k_B σ c) q x 0) (fun m => m + 1) c
  rw [if_pos rfl] at hB
  unfold k_bring
  by_cases h6 : k_kd σ c = 6
  · rw [k_size6 (by rw [hk.1]; exact h6), (k_thru_ln I hc _ _ ⟨h6, Or.inl rfl⟩).1, k_size6 h6]
  · rw [k_size0 (by rw [hk.1]; exact h6) (by rw [hk.1]; exact h7), hB, k_size0 h6 h7]
    rfl
theorem ks0_iv : iv 0 ks0 := ⟨Nat.zero_le _, Nat.zero_le _, fun c hc => absurd hc (Nat.not_lt_zero c), fun c hc => absurd hc (Nat.not_lt_zero c), fun i hi => ⟨Nat.zero_le _, fun c hc => by cases hc⟩⟩
/-- one container more -/
theorem iv.grow {t : Nat} {σ σ' : ks} (I : iv t σ) (hm : k_m σ < 10) (h1 : k_m σ' = k_m σ + 1) (h2 : ∀ c, c < k_m σ → k_C σ' c = k_C σ c) (h3 : ∀ c, c < k_m σ → k_S σ' c = k_S σ c) (h4 : σ'.2.2.2 = σ.2.2.2) (h5 : iv_c σ' (k_m σ)) (h6 : k_bs σ' (k_m σ) = k_m σ → iv_s t (k_kd σ' (k_m σ)) (k_S σ' (k_m σ))) : iv t σ' := by
  have hC : ∀ c, c < k_m σ → σ'.2.1 c = σ.2.1 c := h2
  have hkd : ∀ c, c < k_m σ → k_kd σ' c = k_kd σ c := fun c hc => by unfold k_kd; rw [hC c hc]
  have hbs : ∀ c, c < k_m σ → k_bs σ' c = k_bs σ c := fun c hc => by unfold k_bs; rw [hC c hc]
  have hB : ∀ c, c < k_m σ → k_B σ' c = k_B σ c := fun c hc => by
    have := h3 _ (I.bs hc)
    unfold k_B
    rw [hbs c hc]
    exact this
  have hz : ∀ c, c < k_m σ → k_size σ' c = k_size σ c := fun c hc => k_size_congr ⟨hkd c hc, by unfold k_ln; rw [hC c hc], hB c hc, by unfold k_lo; rw [hC c hc], by unfold k_hi; rw [hC c hc]⟩
  refine ⟨by omega, I.2.1, fun c hc => ?_, fun c hc e => ?_, fun i hi => ?_⟩
  · by_cases e : c = k_m σ
    · rw [e]; exact h5
    · have hc9 : c < k_m σ := by omega
      obtain ⟨j1, j2, j3, j4, j5, j6⟩ := I.cc hc9
      unfold iv_c
      rw [hkd c hc9, hbs c hc9, hkd _ j2.1, hbs _ j2.1, h1]
      refine ⟨j1, ⟨by omega, j2.2⟩, j3, j4, j5, fun q => ?_⟩
      obtain ⟨l1, l2, l3, l4, l5, l6⟩ := j6 q
      have e1 : k_of σ' c = k_of σ c := by unfold k_of; rw [hC c hc9]
      have e2 : k_se σ' c = k_se σ c := by unfold k_se; rw [hC c hc9]
      have e3 : k_fs σ' c = k_fs σ c := by unfold k_fs; rw [hC c hc9]
      have e4 : k_ln σ' c = k_ln σ c := by unfold k_ln; rw [hC c hc9]
      have ho : k_of σ c < k_m σ := by omega
      have e5 : k_se σ' (k_of σ c) = k_se σ (k_of σ c) := by unfold k_se; rw [hC _ ho]
      have e6 : k_ln σ' (k_of σ c) = k_ln σ (k_of σ c) := by unfold k_ln; rw [hC _ ho]
      rw [e1, e2, e3, e4, hkd _ ho, hbs _ ho, hB c hc9, e5, e6]
      exact ⟨l1, l2, l3, l4, l5, l6⟩
  · by_cases e9 : c = k_m σ
    · subst e9; exact h6 e
    · have hc9 : c < k_m σ := by omega
      rw [hkd c hc9, h3 c hc9]
      exact I.2.2.2.1 c hc9 (by rw [← hbs c hc9]; exact e)
  · have hW : k_W σ' i = k_W σ i := congrFun h4 i
    rw [hW]
    refine ⟨(I.2.2.2.2 i hi).1, fun c hc => ?_⟩
    obtain ⟨w1, w2, w3, w4⟩ := (I.2.2.2.2 i hi).2 c hc
    unfold iv_w
    rw [hW, hkd c w1, hB c w1, hz c w1]
    refine ⟨by omega, w2, w3, fun hf => w4 (fun q => ?_)⟩
    have := hf (by rw [hkd c w1]; exact q)
    rw [hB c w1] at this
    rw [← this]
    unfold k_se
    rw [hC c w1]
theorem iv.newB {t : Nat} {σ : ks} {kd : Int32} (I : iv t σ) (hm : k_m σ < 10) (hk : kd = 0 ∨ kd = 1 ∨ kd = 2 ∨ kd = 3 ∨ kd = 4 ∨ kd = 5) : iv t (k_newB σ kd) := by
  have eC : (k_newB σ kd).2.1 (k_m σ) = (kd, k_m σ, 0, 0, 0, 0, 0, 0) := up1_s _ _ _
  have eS : (k_newB σ kd).2.2.1 (k_m σ) = (0, 0, 4, (fun _ => 0), (fun _ => 0)) := up1_s _ _ _
  have n6 : ¬ kd = 6 := fun q => by rw [q] at hk; exact absurd hk (by decide)
  have n7 : ¬ kd = 7 := fun q => by rw [q] at hk; exact absurd hk (by decide)
  have ekd : k_kd (k_newB σ kd) (k_m σ) = kd := by unfold k_kd; rw [eC]
  have ebs : k_bs (k_newB σ kd) (k_m σ) = k_m σ := by unfold k_bs; rw [eC]
  refine I.grow hm rfl (fun c h => up1_o _ _ (by omega)) (fun c h => up1_o _ _ (by omega)) rfl ?_ (fun _ => ?_)
  · unfold iv_c
    rw [ebs, ebs, ekd]
    refine ⟨by rcases hk with h | h | h | h | h | h <;> simp [h], ⟨Nat.lt_succ_self _, rfl⟩, ⟨n6, n7⟩, fun _ _ => rfl, fun q => absurd q n7, fun q => absurd q n6⟩
  · rw [show k_S (k_newB σ kd) (k_m σ) = _ from eS]
    exact ⟨Nat.zero_le _, Nat.zero_le _, by decide, fun _ => Nat.zero_le _, fun _ => by decide, fun _ => Nat.zero_le _, fun _ i j _ hj => absurd hj (Nat.not_lt_zero _)⟩
theorem iv.newV {t : Nat} {σ : ks} {c : Nat} {x : kC} (I : iv t σ) (hm : k_m σ < 10) (hc : c < k_m σ) (e1 : x.2.1 = k_bs σ c) (hx : x.1 = 7 ∧ k_kb σ c = 4 ∨ x.1 = 6 ∧ (k_kb σ c = 0 ∨ k_kb σ c = 1) ∧ x.2.2.1 = c ∧ (k_kd σ c = 0 ∨ k_kd σ c = 1 ∨ k_kd σ c = 6) ∧ k_fr σ c ∧ x.2.2.2.2.2.1 = s_ch (k_B σ c) ∧ x.2.2.2.1 + x.2.2.2.2.1 ≤ s_ct (k_B σ c) ∧ (k_kd σ c = 6 → x.2.2.2.2.1 ≤ k_ln σ c)) : iv t (k_newV σ x) := by
  have hb := I.bs hc
  have hbb := I.bb hc
  have hcC : (k_newV σ x).2.1 c = σ.2.1 c := up1_o _ _ (by omega)
  have hbC : (k_newV σ x).2.1 (k_bs σ c) = σ.2.1 (k_bs σ c) := up1_o _ _ (by omega)
  have eC : (k_newV σ x).2.1 (k_m σ) = x := up1_s _ _ _
  have ebs : k_bs (k_newV σ x) (k_m σ) = k_bs σ c := by
    unfold k_bs
    rw [eC]
    exact e1
  have ekb : k_kd (k_newV σ x) (k_bs σ c) = k_kb σ c := congrArg (fun q : kC => q.1) hbC
  have ebb : k_bs (k_newV σ x) (k_bs σ c) = k_bs σ c := (congrArg (fun q : kC => q.2.1) hbC).trans hbb
  have ekd : k_kd (k_newV σ x) (k_m σ) = x.1 := congrArg (fun q : kC => q.1) eC
  have eB : k_B (k_newV σ x) (k_m σ) = k_B σ c := by
    show σ.2.2.1 (k_bs (k_newV σ x) (k_m σ)) = _
    rw [ebs]
  refine I.grow hm rfl (fun c h => up1_o _ _ (by omega)) (fun c h => rfl) rfl ?_ (fun q => ?_)
  · have i3 := (I.cc hc).2.2.1
    unfold iv_c
    rw [ebs, ebb, ekd, ekb, eB]
    refine ⟨?_, ⟨Nat.lt_succ_of_lt hb, rfl⟩, i3, fun n6 n7 => ?_, fun q => ?_, fun q => ?_⟩
    · rcases hx with ⟨h, -⟩ | ⟨h, -⟩ <;> simp [h]
    · rcases hx with ⟨h, -⟩ | ⟨h, -⟩
      · exact absurd h n7
      · exact absurd h n6
    · rcases hx with ⟨-, h⟩ | ⟨h, -⟩
      · exact h
      · exact absurd (h.symm.trans q) (by decide)
    · rcases hx with ⟨h, -⟩ | ⟨-, h1, h2, h3, h4, h5, h6, h7⟩
      · exact absurd (h.symm.trans q) (by decide)
      · have f1 : k_of (k_newV σ x) (k_m σ) = c := (congrArg (fun q : kC => q.2.2.1) eC).trans h2
        have f2 : k_se (k_newV σ x) (k_m σ) = s_ch (k_B σ c) := (congrArg (fun q : kC => q.2.2.2.2.2.1) eC).trans h5
        have f3 : k_fs (k_newV σ x) (k_m σ) = x.2.2.2.1 := congrArg (fun q : kC => q.2.2.2.1) eC
        have f4 : k_ln (k_newV σ x) (k_m σ) = x.2.2.2.2.1 := congrArg (fun q : kC => q.2.2.2.2.1) eC
        have g1 : k_kd (k_newV σ x) c = k_kd σ c := congrArg (fun q : kC => q.1) hcC
        have g2 : k_bs (k_newV σ x) c = k_bs σ c := congrArg (fun q : kC => q.2.1) hcC
        have g3 : k_se (k_newV σ x) c = k_se σ c := congrArg (fun q : kC => q.2.2.2.2.2.1) hcC
        have g4 : k_ln (k_newV σ x) c = k_ln σ c := congrArg (fun q : kC => q.2.2.2.2.1) hcC
        rw [f1, f2, f3, f4, g1, g2, g3, g4]
        exact ⟨h1, hc, rfl, h3, Nat.le_refl _, fun _ => ⟨h6, fun h9 => ⟨h4 h9, h7 h9⟩⟩⟩
  · rw [ebs] at q
    omega
theorem k_lbq {t : Nat} {σ : ks} {c : Nat} (I : iv t σ) (hc : c < k_m σ) (h : k_isl (k_kd σ c) = true) : (k_kb σ c = 0 ∨ k_kb σ c = 1) ∧ (k_kd σ c = 0 ∨ k_kd σ c = 1 ∨ k_kd σ c = 6) := by
  obtain ⟨i1, -, -, i4, i5, i6⟩ := I.cc hc
  have hk : k_kd σ c = 0 ∨ k_kd σ c = 1 ∨ k_kd σ c = 6 := by simpa [k_isl, or_assoc] using h
  refine ⟨?_, hk⟩
  by_cases h6 : k_kd σ c = 6
  · exact (i6 h6).1
  · have h7 : ¬ k_kd σ c = 7 := fun q => by rw [q] at h; exact absurd h (by decide)
    rw [k_kb, i4 h6 h7]
    rcases hk with h | h | h
    · exact Or.inl h
    · exact Or.inr h
    · exact absurd h h6
theorem k_sbq {t : Nat} {σ : ks} {c : Nat} (I : iv t σ) (hc : c < k_m σ) (h : k_iss (k_kd σ c) = true) : k_kb σ c = 4 := by
  obtain ⟨i1, -, -, i4, i5, i6⟩ := I.cc hc
  by_cases h7 : k_kd σ c = 7
  · exact i5 h7
  · have h4 : k_kd σ c = 4 := by simpa [k_iss, h7] using h
    rw [k_kb, i4 (fun q => absurd (h4.symm.trans q) (by decide)) h7]
    exact h4
theorem btw5 {x : Int32} (h : k_btw x 5 = true) : x = 0 ∨ x = 1 ∨ x = 2 ∨ x = 3 ∨ x = 4 ∨ x = 5 := by
  simp only [k_btw, Bool.and_eq_true, Bool.not_eq_true', decide_eq_false_iff_not] at h
  obtain ⟨j, hj, e⟩ := le_cN (n := 5) (p := x) (by decide) h.1 h.2 |> fun q => (⟨cN x, q.1, q.2⟩ : ∃ j : Nat, j ≤ 5 ∧ x = nI j)
  subst e
  match j, hj with
  | 0, _ => exact Or.inl rfl
  | 1, _ => exact Or.inr (Or.inl rfl)
  | 2, _ => exact Or.inr (Or.inr (Or.inl rfl))
  | 3, _ => exact Or.inr (Or.inr (Or.inr (Or.inl rfl)))
  | 4, _ => exact Or.inr (Or.inr (Or.inr (Or.inr (Or.inl rfl))))
  | 5, _ => exact Or.inr (Or.inr (Or.inr (Or.inr (Or.inr rfl))))
theorem iv_mx {t : Nat} {σ : ks} (I : iv t σ) (h : (!decide (k_m σ = 10)) = true) : k_m σ < 10 := by
  have := I.m10
  have : ¬ k_m σ = 10 := by simpa using h
  omega
theorem iv_up {t : Nat} {σ : ks} (I : iv t σ) (ht : t + 25 ≤ 100000) : iv (t + 25) σ := I.mono (by omega) ht
theorem iv_create {t : Nat} {σ : ks} (I : iv t σ) (ht : t + 25 ≤ 100000) (x : Int32) : iv (t + 25) (sp_create σ x).2.2 := iv_kd (iv_up I ht) fun h1 => iv_kd (iv_up I ht) fun h2 => (I.newB (iv_mx I h2) (btw5 h1)).mono (by omega) ht
theorem iv_view {t : Nat} {σ : ks} (I : iv t σ) (ht : t + 25 ≤ 100000) (x y : Int32) (o : Int32) : iv (t + 25) (sp_view σ o x y).2.2 := by
  refine iv_kb (iv_up I ht) fun h1 => iv_kd (iv_up I ht) fun h2 => iv_kd (iv_up I ht) fun h3 => iv_kd (iv_up I ht) fun h4 => iv_kd (iv_up I ht) fun h5 => ?_
  obtain ⟨hc, -⟩ := ch_con_none I.m10 h1
  have hs : k_stale σ (cN o) = false := by simpa using h3
  have hm := iv_mx I h5
  refine (I.newV (c := cN o) hm hc ?_ ?_).mono (by omega) ht
  · unfold k_vw
    split <;> rfl
  · unfold k_vw
    split
    · rename_i h9
      exact Or.inl ⟨rfl, k_sbq I hc h9⟩
    · rename_i h9
      have h9f := Bool.eq_false_iff.mpr h9
      rw [h9f, Bool.or_false] at h2
      obtain ⟨a1, a2⟩ := k_lbq I hc h2
      have hend := I.end hc (k_fr_of hs)
      have h24 := I.ct hc
      unfold k_vok at h4
      rw [h9f] at h4
      simp only [Bool.false_or, Bool.and_eq_true, Bool.not_eq_true', decide_eq_false_iff_not] at h4
      obtain ⟨g1, g2, g3⟩ := h4
      have y0 : ¬ y < 0 := fun q => by
        rw [Int32.lt_iff_toInt_lt] at q g1 g2
        simp only [Int32.toInt_zero] at q g2
        omega
      obtain ⟨u1, u2⟩ := le_cN (by omega) y0 g3
      have w1 : cN x ≤ cN y := by
        obtain ⟨j, hj, e⟩ := nI_of g2
        rw [u2, e] at g1
        rw [e, show cN (nI j) = j from nI_clamp hj]
        exact Nat.le_of_not_lt (fun q => g1 (nI_lt q hj))
      refine Or.inr ⟨rfl, a1, rfl, a2, k_fr_of hs, rfl, ?_, fun h6 => ?_⟩
      · show k_start σ (cN o) + cN x + (cN y - cN x) ≤ _
        omega
      · rw [← k_size6 h6]
        show cN y - cN x ≤ _
        omega
theorem iv_kind {t : Nat} {σ : ks} (I : iv t σ) (ht : t + 25 ≤ 100000) (x : Int32) : iv (t + 25) (sp_kind σ x).2.2 := iv_kb (iv_up I ht) fun _ => iv_up I ht
theorem iv_size {t : Nat} {σ : ks} (I : iv t σ) (ht : t + 25 ≤ 100000) (x : Int32) : iv (t + 25) (sp_size σ x).2.2 := iv_kb (iv_up I ht) fun _ => iv_kd (iv_up I ht) fun _ => iv_up I ht
theorem iv_get {t : Nat} {σ : ks} (I : iv t σ) (ht : t + 25 ≤ 100000) (x y : Int32) : iv (t + 25) (sp_get σ x y).2.2 := iv_kb (iv_up I ht) fun _ => iv_kd (iv_up I ht) fun _ => iv_up I ht
theorem iv_set {t : Nat} {σ : ks} (I : iv t σ) (ht : t + 25 ≤ 100000) (x y v : Int32) : iv (t + 25) (sp_set σ x y v).2.2 := iv_kb (iv_up I ht) fun h1 => iv_kd (iv_up I ht) fun _ => by
  obtain ⟨hc, -, hl, -⟩ := ch_fl_none I.m10 h1
  obtain ⟨a1, -⟩ := k_lbq I hc hl
  exact (I.setS ((I.s hc).nu a1) rfl rfl (fun q => by rcases a1 with h | h <;> exact absurd (h.symm.trans q) (by decide))).mono (by omega) ht
theorem iv_insert {t : Nat} {σ : ks} (I : iv t σ) (ht : t + 25 ≤ 100000) (x y v : Int32) : iv (t + 25) (sp_insert σ x y v).2.2 := iv_kb (iv_up I ht) fun h1 => iv_kd (iv_up I ht) fun h2 => iv_kd (iv_up I ht) fun h3 => by
  obtain ⟨hc, -, hl, hs⟩ := ch_flh_none I.m10 h1
  have h24 : s_ct (k_B σ (cN x)) < 24 := by simpa using h3
  have hf := k_fr_of hs
  have hend := I.end hc hf
  by_cases h5 : k_kd σ (cN x) = 5
  · have e : k_ins σ (cN x) y v = ym_cnt (ym_bel (s_nu (k_B σ (cN x))) v 1) (s_ct (k_B σ (cN x))) := if_pos h5
    have n6 : ¬ k_kd σ (cN x) = 6 := fun q => absurd (h5.symm.trans q) (by decide)
    have n7 : ¬ k_kd σ (cN x) = 7 := fun q => absurd (h5.symm.trans q) (by decide)
    have eb := I.b0 hc n6 n7
    have hso := (I.s hc).2.2.2.2.2.2 (Or.inr (by rw [eb]; exact h5))
    have hcl := ym_cnt_le (ym_bel (s_nu (k_B σ (cN x))) v 1) (s_ct (k_B σ (cN x)))
    refine (I.bring (by omega) hc hf (by rw [e]; exact hcl) h24 (by rw [eb, h5]; decide) (fun _ => ?_)).1.mono (by omega) ht
    rw [e]
    refine so_up hso hcl (fun i hi => (so_le hso (by omega)).mp hi) (fun i hi hi2 => ?_)
    have := mt (so_le (x := v) hso hi2).mpr (by omega)
    exact Int32.le_of_lt (Int32.not_le.mp this)
  · have e : k_ins σ (cN x) y v = k_start σ (cN x) + cN y := if_neg h5
    have hl2 : k_isl (k_kd σ (cN x)) = true := by simpa [k_isf, h5] using hl
    obtain ⟨a1, -⟩ := k_lbq I hc hl2
    have h2' : ¬ y < 0 ∧ ¬ nI (k_size σ (cN x)) < y := by simpa [k_toi, h5] using h2
    obtain ⟨u1, -⟩ := le_cN (by omega) h2'.1 h2'.2
    refine (I.bring (by omega) hc hf (by rw [e]; omega) h24 ⟨fun q => ?_, fun q => ?_⟩ (fun q => ?_)).1.mono (by omega) ht
    · rcases a1 with h | h <;> exact absurd (h.symm.trans q) (by decide)
    · rcases a1 with h | h <;> exact absurd (h.symm.trans q) (by decide)
    · rcases a1 with h | h <;> rcases q with q | q <;> exact absurd (h.symm.trans q) (by decide)
theorem iv_remove {t : Nat} {σ : ks} (I : iv t σ) (ht : t + 25 ≤ 100000) (x y : Int32) : iv (t + 25) (sp_remove σ x y).2.2 := iv_kb (iv_up I ht) fun h1 => iv_kd (iv_up I ht) fun h2 => by
  obtain ⟨hc, -, hl, hs⟩ := ch_flh_none I.m10 h1
  have hf := k_fr_of hs
  have hend := I.end hc hf
  have h24 := I.ct hc
  obtain ⟨p1, -⟩ := inb_cN (n := k_size σ (cN x)) (by omega) h2
  exact (I.take (by omega) hc hf (by omega) (fun h6 => by rw [k_size6 h6] at p1; omega)).1.mono (by omega) ht
theorem iv_sort {t : Nat} {σ : ks} (I : iv t σ) (ht : t + 25 ≤ 100000) (x y : Int32) : iv (t + 25) (sp_sort σ x y).2.2 := iv_kb (iv_up I ht) fun h1 => iv_kd (iv_up I ht) fun h2 => by
  obtain ⟨hc, -, hl, hs⟩ := ch_fl_none I.m10 h1
  obtain ⟨a1, -⟩ := k_lbq I hc hl
  refine (I.arr (by omega) hc (k_fr_of hs) ⟨fun q => ?_, fun q => ?_⟩).1.mono (by omega) ht
  · rcases a1 with h | h <;> exact absurd (h.symm.trans q) (by decide)
  · rcases a1 with h | h <;> exact absurd (h.symm.trans q) (by decide)
theorem iv_put {t : Nat} {σ : ks} (I : iv t σ) (ht : t + 25 ≤ 100000) (x v : Int32) (key : Int32) : iv (t + 25) (sp_put σ x key v).2.2 := iv_kb (iv_up I ht) fun h1 => iv_kb (iv_up I ht) fun h2 => by
  obtain ⟨hc, -, hk⟩ := ch_map_none I.m10 h1
  have h6 := k_ism6 hk
  have hkb := I.mapb hc hk
  cases hat : k_at σ (cN x) key with
  | none =>
    obtain ⟨a1, a2⟩ := (I.s hc).new (key := key) (v := v) hkb ((ch_key_none h2).2 hat)
    exact (I.setM hc h6 (by omega) (by omega) a1 a2).mono (by omega) ht
  | some p => exact (I.use (by omega) hc h6 (I.s hc).vl rfl rfl rfl).mono (by omega) ht
theorem iv_merge {t : Nat} {σ : ks} (I : iv t σ) (ht : t + 25 ≤ 100000) (x v : Int32) (key : Int32) : iv (t + 25) (sp_merge σ x key v).2.2 := iv_kb (iv_up I ht) fun h1 => iv_kb (iv_up I ht) fun h2 => by
  obtain ⟨hc, -, hk⟩ := ch_map_none I.m10 h1
  have h6 := k_ism6 hk
  have hkb := I.mapb hc hk
  cases hat : k_at σ (cN x) key with
  | none =>
    obtain ⟨a1, a2⟩ := (I.s hc).new (key := key) (v := v) hkb ((ch_key_none h2).2 hat)
    exact (I.setM hc h6 (by omega) (by omega) a1 a2).mono (by omega) ht
  | some p => exact (I.use (by omega) hc h6 (I.s hc).vl rfl rfl rfl).mono (by omega) ht
theorem iv_has {t : Nat} {σ : ks} (I : iv t σ) (ht : t + 25 ≤ 100000) (x : Int32) (key : Int32) : iv (t + 25) (sp_has σ x key).2.2 := iv_kb (iv_up I ht) fun h1 => by
  cases hat : k_at σ (cN x) key <;> exact iv_up I ht
theorem iv_value {t : Nat} {σ : ks} (I : iv t σ) (ht : t + 25 ≤ 100000) (x : Int32) (key : Int32) : iv (t + 25) (sp_value σ x key).2.2 := iv_kb (iv_up I ht) fun h1 => by
  obtain ⟨hc, -, hk⟩ := ch_map_none I.m10 h1
  cases hat : k_at σ (cN x) key with
  | none => exact iv_up I ht
  | some p => exact (I.use (by omega) hc (k_ism6 hk) (I.s hc) rfl rfl rfl).mono (by omega) ht
theorem iv_drop {t : Nat} {σ : ks} (I : iv t σ) (ht : t + 25 ≤ 100000) (x : Int32) (key : Int32) : iv (t + 25) (sp_drop σ x key).2.2 := iv_kb (iv_up I ht) fun h1 => by
  obtain ⟨hc, -, hk⟩ := ch_map_none I.m10 h1
  cases hat : k_at σ (cN x) key with
  | none => exact iv_up I ht
  | some p => exact (I.drp (by omega) hc hk hat).mono (by omega) ht
theorem iv_near {t : Nat} {σ : ks} (I : iv t σ) (ht : t + 25 ≤ 100000) (x y : Int32) (key : Int32) : iv (t + 25) (sp_near σ x key y).2.2 := iv_kb (iv_up I ht) fun _ => iv_kd (iv_up I ht) fun _ => iv_kd (iv_up I ht) fun _ => iv_kd (iv_up I ht) fun _ => iv_up I ht
theorem iv_room {t : Nat} {σ : ks} (I : iv t σ) (ht : t + 25 ≤ 100000) (x : Int32) : iv (t + 25) (sp_room σ x).2.2 := iv_kb (iv_up I ht) fun _ => iv_kd (iv_up I ht) fun _ => iv_up I ht
theorem iv_bucket {t : Nat} {σ : ks} (I : iv t σ) (ht : t + 25 ≤ 100000) (x y : Int32) : iv (t + 25) (sp_bucket σ x y).2.2 := iv_kb (iv_up I ht) fun _ => iv_kd (iv_up I ht) fun _ => iv_up I ht
theorem iv_sift {t : Nat} {σ : ks} (I : iv t σ) (ht : t + 25 ≤ 100000) (x y v : Int32) : iv (t + 25) (sp_sift σ x y v).2.2 := iv_kb (iv_up I ht) fun h1 => iv_kd (iv_up I ht) fun h2 => iv_kd (iv_up I ht) fun h3 => iv_kd (iv_up I ht) fun h4 => by
  obtain ⟨hc, -⟩ := ch_con_none I.m10 h1
  have hs : k_stale σ (cN x) = false := by simpa using h3
  have hf := k_fr_of hs
  have hend := I.end hc hf
  have h24 := I.ct hc
  exact (iv.sift (k_size σ (cN x)) I (by omega) hc hf (Nat.le_refl _)).mono (by omega) ht
theorem iv_same {t : Nat} {σ : ks} (I : iv t σ) (ht : t + 25 ≤ 100000) (x y : Int32) : iv (t + 25) (sp_same σ x y).2.2 := iv_kb (iv_up I ht) fun _ => iv_kb (iv_up I ht) fun _ => iv_kd (iv_up I ht) fun _ => iv_kd (iv_up I ht) fun _ => iv_up I ht
theorem iv_open {t : Nat} {σ : ks} (I : iv t σ) (ht : t + 25 ≤ 100000) (x y : Int32) : iv (t + 25) (sp_open σ x y).2.2 := iv_kd (iv_up I ht) fun h1 => iv_kb (iv_up I ht) fun h2 => iv_kd (iv_up I ht) fun h3 => iv_kd (iv_up I ht) fun h4 => by
  obtain ⟨hc, -⟩ := ch_con_none I.m10 h2
  have h5 : ¬ k_kd σ (cN y) = 5 := by simpa using h3
  refine (I.setW (Nat.zero_le _) (fun c e => ?_)).mono (by omega) ht
  have : cN y = c := Option.some.inj e
  subst this
  exact ⟨hc, h5, Nat.le_refl _, fun _ _ => ⟨Nat.zero_le _, Or.inl rfl⟩⟩
theorem iv_next {t : Nat} {σ : ks} (I : iv t σ) (ht : t + 25 ≤ 100000) (x y : Int32) : iv (t + 25) (sp_next σ x y).2.2 := iv_kb (iv_up I ht) fun h1 => iv_kd (iv_up I ht) fun h2 => iv_kd (iv_up I ht) fun h3 => iv_kd (iv_up I ht) fun h4 => by
  obtain ⟨hi, -, hov, hc⟩ := ch_wk_none I h1
  have hl : k_lost σ (cN x) (k_ov σ (cN x)) = false := by simpa using h3
  have hend := I.end hc (k_fr_of (k_lost_no hl).1)
  have h24 := I.ct hc
  obtain ⟨p1, p2⟩ := inb_cN (n := k_size σ (k_ov σ (cN x))) (by omega) h4
  show iv _ (k_setW σ (cN x) ((k_W σ (cN x)).1, if y = 0 then cN (k_nx σ (cN x) y) else cN (k_nx σ (cN x) y) + 1, nI (cN (k_nx σ (cN x) y)), (k_W σ (cN x)).2.2.2))
  rw [← p2]
  exact (I.goOver hi hov hl p1 p2).mono (by omega) ht
theorem iv_left {t : Nat} {σ : ks} (I : iv t σ) (ht : t + 25 ≤ 100000) (x : Int32) : iv (t + 25) (sp_left σ x).2.2 := iv_kb (iv_up I ht) fun _ => iv_kd (iv_up I ht) fun _ => iv_up I ht
theorem iv_erase {t : Nat} {σ : ks} (I : iv t σ) (ht : t + 25 ≤ 100000) (x : Int32) : iv (t + 25) (sp_erase σ x).2.2 := iv_kb (iv_up I ht) fun h1 => iv_kd (iv_up I ht) fun h2 => iv_kd (iv_up I ht) fun h3 => by
  obtain ⟨hi, -, hov, hc⟩ := ch_wk_none I h1
  have hl : k_lost σ (cN x) (k_ov σ (cN x)) = false := by simpa using h2
  have hf := k_fr_of (k_lost_no hl).1
  have hend := I.end hc hf
  have h24 := I.ct hc
  obtain ⟨g1, g2⟩ := (I.walk hi hov hl).2 (by simpa using h3)
  have h5 := ((I.2.2.2.2 _ hi).2 _ hov).2.1
  have hT := I.take (q := k_start σ (k_ov σ (cN x)) + k_la σ (cN x)) (by omega) hc hf (by omega) (fun h6 => by rw [k_size6 h6] at g1; omega)
  have hk := k_thru_k I hc (S_take (k_B σ (k_ov σ (cN x))) (k_start σ (k_ov σ (cN x)) + k_la σ (cN x))) (fun m => m - 1) (k_ov σ (cN x))
  have hm := (k_thru_C I hc (S_take (k_B σ (k_ov σ (cN x))) (k_start σ (k_ov σ (cN x)) + k_la σ (cN x))) (fun m => m - 1)).1
  have hz := (I.take_sz hc hf g1).2
  refine (hT.1.setW (i := cN x) (w := (some (k_ov σ (cN x)), k_la σ (cN x), -1, _)) (show k_la σ (cN x) ≤ 24 by omega) (fun c e => ?_)).mono (by omega) ht
  have : k_ov σ (cN x) = c := Option.some.inj e
  subst this
  refine ⟨?_, ?_, Nat.le_refl _, fun _ _ => ⟨?_, Or.inl rfl⟩⟩
  · show k_ov σ (cN x) < (k_take σ _ _).1
    unfold k_take
    rw [hm]
    exact hc
  · unfold k_take
    rw [hk.1]
    exact h5
  · rw [hz]
    show k_la σ (cN x) ≤ _
    omega
theorem iv_assign {t : Nat} {σ : ks} (I : iv t σ) (ht : t + 25 ≤ 100000) (x y : Int32) : iv (t + 25) (sp_assign σ x y).2.2 := iv_kb (iv_up I ht) fun h1 => iv_kd (iv_up I ht) fun h2 => iv_kd (iv_up I ht) fun h3 => by
  obtain ⟨hi, -, hov, hc⟩ := ch_wk_none I h1
  split
  · rename_i hl
    obtain ⟨a1, -⟩ := k_lbq I hc hl
    exact (I.setS ((I.s hc).nu a1) rfl rfl (fun q => by rcases a1 with h | h <;> exact absurd (h.symm.trans q) (by decide))).mono (by omega) ht
  · exact (I.setS (I.s hc).vl rfl rfl (fun q => rfl)).mono (by omega) ht
theorem iv_plant {t : Nat} {σ : ks} (I : iv t σ) (ht : t + 25 ≤ 100000) (x y : Int32) : iv (t + 25) (sp_plant σ x y).2.2 := iv_kb (iv_up I ht) fun h1 => iv_kd (iv_up I ht) fun h2 => iv_kd (iv_up I ht) fun h3 => iv_kd (iv_up I ht) fun h4 => by
  obtain ⟨hi, -, hov, hc⟩ := ch_wk_none I h1
  have hl : k_lost σ (cN x) (k_ov σ (cN x)) = false := by simpa using h3
  have h24 : s_ct (k_B σ (k_ov σ (cN x))) < 24 := by simpa using h4
  have hf := k_fr_of (k_lost_no hl).1
  have hend := I.end hc hf
  have g1 := (I.walk hi hov hl).1
  have h5 := ((I.2.2.2.2 _ hi).2 _ hov).2.1
  obtain ⟨a1, a2⟩ := k_lbq I hc h2
  have n7 : ¬ k_kd σ (k_ov σ (cN x)) = 7 := fun q => by rcases a2 with h | h | h <;> exact absurd (h.symm.trans q) (by decide)
  have hT := I.bring (x := y) (q := k_start σ (k_ov σ (cN x)) + (k_W σ (cN x)).2.1) (by omega) hc hf (by omega) h24 ⟨fun q => by rcases a1 with h | h <;> exact absurd (h.symm.trans q) (by decide), fun q => by rcases a1 with h | h <;> exact absurd (h.symm.trans q) (by decide)⟩ (fun q => by rcases a1 with h | h <;> rcases q with q | q <;> exact absurd (h.symm.trans q) (by decide))
  have hk := k_thru_k I hc (S_bring (k_kd σ (k_bs σ (k_ov σ (cN x)))) (k_B σ (k_ov σ (cN x))) (k_start σ (k_ov σ (cN x)) + (k_W σ (cN x)).2.1) y 0) (fun m => m + 1) (k_ov σ (cN x))
  have hm := (k_thru_C I hc (S_bring (k_kd σ (k_bs σ (k_ov σ (cN x)))) (k_B σ (k_ov σ (cN x))) (k_start σ (k_ov σ (cN x)) + (k_W σ (cN x)).2.1) y 0) (fun m => m + 1)).1
  have hz := I.bring_sz (q := k_start σ (k_ov σ (cN x)) + (k_W σ (cN x)).2.1) (x := y) hc n7
  refine (hT.1.setW (i := cN x) (w := (some (k_ov σ (cN x)), (k_W σ (cN x)).2.1 + 1, -1, _)) (show (k_W σ (cN x)).2.1 + 1 ≤ 24 by omega) (fun c e => ?_)).mono (by omega) ht
  have : k_ov σ (cN x) = c := Option.some.inj e
  subst this
  refine ⟨?_, ?_, Nat.le_refl _, fun _ _ => ⟨?_, Or.inl rfl⟩⟩
  · show k_ov σ (cN x) < (k_bring σ _ _ _).1
    unfold k_bring
    rw [hm]
    exact hc
  · unfold k_bring
    rw [hk.1]
    exact h5
  · rw [hz]
    show (k_W σ (cN x)).2.1 + 1 ≤ _
    omega
