/-! PART grow: one container more -/
section Grow
variable {D : va_G} {ca : kca} {z : State} {A A' : kA} {σ σ' : ks} {H H1 : Heap} {t : Nat}
theorem ck_at.grow (P : ck_at D ca z A σ H) (I : iv t σ) (hm : k_m σ < 10) (hzs : z.heap.size ≤ H.size) (hsz : H.size ≤ H1.size)
    (hA : a_k A' = a_k A ∧ a_ka A' = a_ka A ∧ a_wa A' = a_wa A ∧ a_wd A' = a_wd A) (hAd : ∀ c, c < k_m σ → a_ad A' c = a_ad A c ∧ a_sa A' c = a_sa A c ∧ a_na A' c = a_na A c ∧ a_va A' c = a_va A c)
    (ho : ∀ q, q < H.size → a_ow A' q = a_ow A q) (ho2 : ∀ q, H.size ≤ q → a_ow A' q ≠ 0 → q < H1.size) (hov : a_ow A' (a_ad A' (k_m σ)) = 10 + k_m σ)
    (hσ : k_m σ' = k_m σ + 1) (hσC : ∀ c, c < k_m σ → k_C σ' c = k_C σ c) (hσS : ∀ c, c < k_m σ → k_S σ' c = k_S σ c) (hσW : σ'.2.2.2 = σ.2.2.2)
    (hk : va_at D kcl (a_k A, .inr (5, [.ref (a_ka A), .ref (a_wa A), .int (nI (k_m σ + 1))])) H1) (hr : va_at D kcl (a_ka A, .inl (ca.2.1, 10, .inr (.inr (.inr (.inr (va_up (k_row A σ) (k_m σ) (some (a_ad A' (k_m σ))))))))) H1)
    (hf : ∀ q, q < H.size → q ≠ a_k A → q ≠ a_ka A → H1[q]? = H[q]?) (hc : co_at D H1 A' σ' (k_m σ)) (hb : k_bs σ' (k_m σ) < k_m σ + 1 ∧ k_bs σ' (k_bs σ' (k_m σ)) = k_bs σ' (k_m σ))
    (hnb : k_bs σ' (k_m σ) = k_m σ → (a_ow A' (a_sa A' (k_m σ)) = 20 + k_m σ ∧ a_ow A' (a_na A' (k_m σ)) = 30 + k_m σ ∧ a_ow A' (a_va A' (k_m σ)) = 40 + k_m σ) ∧ sk_at D ca H1 A' (k_kd σ' (k_m σ)) (k_m σ) (k_S σ' (k_m σ))) : ck_at D ca z A' σ' H1 := by
  have hC : ∀ c, c < k_m σ → σ'.2.1 c = σ.2.1 c := hσC
  have hbs : ∀ c, c < k_m σ → k_bs σ' c = k_bs σ c := fun c h => by unfold k_bs; rw [hC c h]
  have hkd : ∀ c, c < k_m σ → k_kd σ' c = k_kd σ c := fun c h => by unfold k_kd; rw [hC c h]
  have lt : ∀ q, a_ow A q ≠ 0 → q < H.size := fun q h => (P.ok.2.2.2.2.2.2.1 q h).2
  have how : ∀ q, a_ow A q ≠ 0 → a_ow A' q = a_ow A q := fun q h => ho q (lt q h)
  have fr : ∀ q, a_ow A q ≠ 0 → a_ow A q ≠ 1 → a_ow A q ≠ 2 → H1[q]? = H[q]? := fun q h0 h1 h2 => hf q (lt q h0) (fun e => h1 (by rw [e]; exact P.ok.1)) (fun e => h2 (by rw [e]; exact P.ok.2.1))
  have hm10 := P.ok.m10
  refine ⟨⟨?_, ?_, ?_, fun i hi => ?_, fun c hc9 => ?_, fun b hb9 e9 => ?_, fun q hq => ?_, by omega, fun c hc9 => ?_⟩, ?_, ?_, ?_, fun i hi => ?_, fun c hc9 => ?_, fun b hb9 e9 => ?_⟩
  · rw [hA.1, how _ (by rw [P.ok.1]; decide)]; exact P.ok.1
  · rw [hA.2.1, how _ (by rw [P.ok.2.1]; decide)]; exact P.ok.2.1
  · rw [hA.2.2.1, how _ (by rw [P.ok.2.2.1]; decide)]; exact P.ok.2.2.1
  · have h9 := P.ok.wd hi
    rw [hA.2.2.2, how _ (by rw [h9]; omega)]; exact h9
  · by_cases e : c = k_m σ
    · rw [e]; exact hov
    · have hc8 : c < k_m σ := by omega
      have h9 := P.ok.ad hc8
      rw [(hAd c hc8).1, how _ (by rw [h9]; omega)]; exact h9
  · by_cases e : b = k_m σ
    · subst e; exact (hnb e9).1
    · have hb8 : b < k_m σ := by omega
      have h9 := P.ok.st hb8 (by rw [← hbs b hb8]; exact e9)
      rw [(hAd b hb8).2.1, (hAd b hb8).2.2.1, (hAd b hb8).2.2.2, how _ (by rw [h9.1]; omega), how _ (by rw [h9.2.1]; omega), how _ (by rw [h9.2.2]; omega)]; exact h9
  · by_cases e : q < H.size
    · rw [ho q e] at hq
      exact ⟨(P.ok.2.2.2.2.2.2.1 q hq).1, by omega⟩
    · exact ⟨by omega, ho2 q (by omega) hq⟩
  · by_cases e : c = k_m σ
    · subst e; rw [hσ]; exact hb
    · have hc8 : c < k_m σ := by omega
      have h9 := P.ok.bs hc8
      rw [hbs c hc8, hbs _ h9.1, hσ]
      exact ⟨by omega, h9.2⟩
  · rw [hA.1, hA.2.1, hA.2.2.1, hσ]; exact hk
  · rw [hA.2.1]
    have e : k_row A' σ' = va_up (k_row A σ) (k_m σ) (some (a_ad A' (k_m σ))) := by
      funext q
      unfold k_row va_up
      rw [hσ]
      by_cases e : q = k_m σ
      · subst e
        rw [if_pos (by omega), if_pos rfl]
      · rw [if_neg e]
        dsimp only
        by_cases e2 : q < k_m σ
        · rw [if_pos (by omega), if_pos e2, (hAd q e2).1]
        · rw [if_neg (by omega), if_neg e2]
    rw [e]; exact hr
  · rw [hA.2.2.1, hA.2.2.2]
    exact va_at.kept P.wa (fr _ (by show a_ow A (a_wa A) ≠ 0; rw [P.ok.2.2.1]; decide) (by show a_ow A (a_wa A) ≠ 1; rw [P.ok.2.2.1]; decide) (by show a_ow A (a_wa A) ≠ 2; rw [P.ok.2.2.1]; decide))
  · have h9 := P.w hi
    have hw9 := P.ok.wd hi
    have hW : k_W σ' i = k_W σ i := congrFun hσW i
    have hmap : (k_W σ i).1.map (a_ad A') = (k_W σ i).1.map (a_ad A) := by
      cases ho9 : (k_W σ i).1 with
      | none => rfl
      | some c9 => exact congrArg some (hAd c9 ((I.2.2.2.2 i hi).2 c9 ho9).1).1
    unfold wk_at at h9 ⊢
    rw [hW, hmap, hA.2.2.2]
    exact va_at.kept h9 (fr _ (by show a_ow A (a_wd A i) ≠ 0; omega) (by show a_ow A (a_wd A i) ≠ 1; omega) (by show a_ow A (a_wd A i) ≠ 2; omega))
  · by_cases e : c = k_m σ
    · rw [e]; exact hc
    · have hc8 : c < k_m σ := by omega
      have h9 := P.c hc8
      have ha9 := P.ok.ad hc8
      have hfl : k_fl A' σ' c = k_fl A σ c := by
        unfold k_fl
        rw [hkd c hc8, hbs c hc8, (hAd _ (P.ok.bs hc8).1).2.1]
        unfold k_fs k_ln k_se k_lo k_hi
        rw [hC c hc8]
        split
        · rename_i h6
          have hof := I.hw c hc8 h6
          have hab : k_ab A' σ' c = k_ab A σ c := by
            unfold k_ab
            rw [show k_of σ' c = k_of σ c by unfold k_of; rw [hC c hc8], hkd _ (by omega), (hAd _ (by omega)).1]
          rw [hab]
        · rfl
      unfold co_at k_ci at h9 ⊢
      rw [hkd c hc8, hfl, (hAd c hc8).1]
      exact va_at.kept h9 (fr _ (by show a_ow A (a_ad A c) ≠ 0; omega) (by show a_ow A (a_ad A c) ≠ 1; omega) (by show a_ow A (a_ad A c) ≠ 2; omega))
  · by_cases e : b = k_m σ
    · subst e; exact (hnb e9).2
    · have hb8 : b < k_m σ := by omega
      have e8 : k_bs σ b = b := by rw [← hbs b hb8]; exact e9
      have h9 := P.ok.st hb8 e8
      obtain ⟨o1, o2, o3⟩ := P.s hb8 e8
      have hS9 := hσS b hb8
      unfold sk_at st_at
      rw [hkd b hb8, hS9, (hAd b hb8).2.1, (hAd b hb8).2.2.1, (hAd b hb8).2.2.2]
      exact ⟨va_at.kept o1 (fr _ (by show a_ow A (a_sa A b) ≠ 0; omega) (by show a_ow A (a_sa A b) ≠ 1; omega) (by show a_ow A (a_sa A b) ≠ 2; omega)), va_at.kept o2 (fr _ (by show a_ow A (a_na A b) ≠ 0; omega) (by show a_ow A (a_na A b) ≠ 1; omega) (by show a_ow A (a_na A b) ≠ 2; omega)), va_at.kept o3 (fr _ (by show a_ow A (a_va A b) ≠ 0; omega) (by show a_ow A (a_va A b) ≠ 1; omega) (by show a_ow A (a_va A b) ≠ 2; omega))⟩
/-- the state with a new base; with a new view -/
def k_newB (σ : ks) (kd : Int32) : ks := (k_m σ + 1, up1 σ.2.1 (k_m σ) (kd, k_m σ, 0, 0, 0, 0, 0, 0), up1 σ.2.2.1 (k_m σ) (0, 0, 4, (fun _ => 0), (fun _ => 0)), σ.2.2.2)
def k_newV (σ : ks) (x : kC) : ks := (k_m σ + 1, up1 σ.2.1 (k_m σ) x, σ.2.2.1, σ.2.2.2)
def kA_B (A : kA) (m n : Nat) : kA := (a_k A, a_ka A, a_wa A, up1 (a_ad A) m n, up1 (a_sa A) m (n + 1), up1 (a_na A) m (n + 2), up1 (a_va A) m (n + 3), a_wd A, fun q => if q = n then 10 + m else if q = n + 1 then 20 + m else if q = n + 2 then 30 + m else if q = n + 3 then 40 + m else if n < q then 0 else a_ow A q)
def kA_V (A : kA) (m n : Nat) : kA := (a_k A, a_ka A, a_wa A, up1 (a_ad A) m n, a_sa A, a_na A, a_va A, a_wd A, fun q => if q = n then 10 + m else if n < q then 0 else a_ow A q)
theorem ck_at.growB {kd : Int32} (P : ck_at D ca z A σ H) (I : iv t σ) (hm : k_m σ < 10) (hzs : z.heap.size ≤ H.size) (hsz : H1.size = H.size + 4) (h6 : ¬ kd = 6 ∧ ¬ kd = 7)
    (hk : va_at D kcl (a_k A, .inr (5, [.ref (a_ka A), .ref (a_wa A), .int (nI (k_m σ + 1))])) H1) (hr : va_at D kcl (a_ka A, .inl (ca.2.1, 10, .inr (.inr (.inr (.inr (va_up (k_row A σ) (k_m σ) (some H.size))))))) H1)
    (hf : ∀ q, q < H.size → q ≠ a_k A → q ≠ a_ka A → H1[q]? = H[q]?) (hc : va_at D kcl (H.size, .inr (1, [.int kd, .ref (H.size + 1)])) H1) (hs : st_at D ca H1 (H.size + 1) (H.size + 2) (H.size + 3) kd 4 0 0 (fun _ => 0) (fun _ => 0)) : ck_at D ca z (kA_B A (k_m σ) H.size) (k_newB σ kd) H1 := by
  have e1 : a_ad (kA_B A (k_m σ) H.size) (k_m σ) = H.size := up1_s _ _ _
  have e2 : a_sa (kA_B A (k_m σ) H.size) (k_m σ) = H.size + 1 := up1_s _ _ _
  have e3 : a_na (kA_B A (k_m σ) H.size) (k_m σ) = H.size + 2 := up1_s _ _ _
  have e4 : a_va (kA_B A (k_m σ) H.size) (k_m σ) = H.size + 3 := up1_s _ _ _
  have eC : (k_newB σ kd).2.1 (k_m σ) = (kd, k_m σ, 0, 0, 0, 0, 0, 0) := up1_s _ _ _
  have eS : k_S (k_newB σ kd) (k_m σ) = (0, 0, 4, (fun _ => 0), (fun _ => 0)) := up1_s _ _ _
  refine P.grow I hm hzs (by omega) ⟨rfl, rfl, rfl, rfl⟩ (fun c h => ⟨up1_o _ _ (by omega), up1_o _ _ (by omega), up1_o _ _ (by omega), up1_o _ _ (by omega)⟩) (fun q hq => ?_) (fun q hq h0 => ?_) ?_ rfl (fun c h => up1_o _ _ (by omega)) (fun c h => up1_o _ _ (by omega)) rfl hk (by rw [e1]; exact hr) hf ?_ ?_ (fun _ => ⟨⟨?_, ?_, ?_⟩, ?_⟩)
  · show (if q = H.size then _ else _) = _
    rw [if_neg (by omega), if_neg (by omega), if_neg (by omega), if_neg (by omega), if_neg (by omega)]
  · apply Nat.lt_of_not_le
    intro h9
    apply h0
    show (if q = H.size then _ else _) = _
    rw [if_neg (by omega), if_neg (by omega), if_neg (by omega), if_neg (by omega), if_pos (by omega)]
  · rw [e1]
    show (if H.size = H.size then _ else _) = _
    rw [if_pos rfl]
  · unfold co_at k_ci k_fl k_kd k_bs
    rw [eC]
    dsimp only
    rw [if_neg h6.1, if_neg h6.2, if_neg h6.1, if_neg h6.2, e1, e2]
    exact hc
  · unfold k_bs
    rw [eC]
    dsimp only
    rw [eC]
    exact ⟨by omega, rfl⟩
  · rw [e2]
    show (if H.size + 1 = H.size then _ else _) = _
    rw [if_neg (by omega), if_pos rfl]
  · rw [e3]
    show (if H.size + 2 = H.size then _ else _) = _
    rw [if_neg (by omega), if_neg (by omega), if_pos rfl]
  · rw [e4]
    show (if H.size + 3 = H.size then _ else _) = _
    rw [if_neg (by omega), if_neg (by omega), if_neg (by omega), if_pos rfl]
  · unfold sk_at k_kd
    rw [eC, eS, e2, e3, e4]
    exact hs
theorem ck_at.growV {x : kC} {ci : Nat} {fl : List Value} (P : ck_at D ca z A σ H) (I : iv t σ) (hm : k_m σ < 10) (hzs : z.heap.size ≤ H.size) (hsz : H1.size = H.size + 1) (hx : x.2.1 < k_m σ ∧ k_bs σ x.2.1 = x.2.1) (hxo : x.1 = 6 → x.2.2.1 < k_m σ)
    (hk : va_at D kcl (a_k A, .inr (5, [.ref (a_ka A), .ref (a_wa A), .int (nI (k_m σ + 1))])) H1) (hr : va_at D kcl (a_ka A, .inl (ca.2.1, 10, .inr (.inr (.inr (.inr (va_up (k_row A σ) (k_m σ) (some H.size))))))) H1)
    (hf : ∀ q, q < H.size → q ≠ a_k A → q ≠ a_ka A → H1[q]? = H[q]?) (hc : va_at D kcl (H.size, .inr (ci, fl)) H1)
    (hci : ci = (if x.1 = 6 then 2 else if x.1 = 7 then 3 else 1)) (hfl : fl = (if x.1 = 6 then [.int 6, .ref (a_sa A x.2.1), va_rf (if k_kd σ x.2.2.1 = 6 then some (a_ad A x.2.2.1) else none), .int (nI x.2.2.2.1), .int (nI x.2.2.2.2.1), .int (nI x.2.2.2.2.2.1)] else if x.1 = 7 then [.int 7, .ref (a_sa A x.2.1), .int x.2.2.2.2.2.2.1, .int x.2.2.2.2.2.2.2] else [.int x.1, .ref (a_sa A x.2.1)])) : ck_at D ca z (kA_V A (k_m σ) H.size) (k_newV σ x) H1 := by
  have e1 : a_ad (kA_V A (k_m σ) H.size) (k_m σ) = H.size := up1_s _ _ _
  have eC : (k_newV σ x).2.1 (k_m σ) = x := up1_s _ _ _
  refine P.grow I hm hzs (by omega) ⟨rfl, rfl, rfl, rfl⟩ (fun c h => ⟨up1_o _ _ (by omega), rfl, rfl, rfl⟩) (fun q hq => ?_) (fun q hq h0 => ?_) ?_ rfl (fun c h => up1_o _ _ (by omega)) (fun c h => rfl) rfl hk (by rw [e1]; exact hr) hf ?_ ?_ (fun h9 => ?_)
  · show (if q = H.size then _ else _) = _
    rw [if_neg (by omega), if_neg (by omega)]
  · apply Nat.lt_of_not_le
    intro h9
    apply h0
    show (if q = H.size then _ else _) = _
    rw [if_neg (by omega), if_pos (by omega)]
  · rw [e1]
    show (if H.size = H.size then _ else _) = _
    rw [if_pos rfl]
  · have hco : k_fl (kA_V A (k_m σ) H.size) (k_newV σ x) (k_m σ) = fl := by
      rw [hfl]
      unfold k_fl k_kd k_bs k_fs k_ln k_se k_lo k_hi
      rw [eC]
      by_cases h6 : x.1 = 6
      · rw [if_pos h6, if_pos h6]
        have ho := hxo h6
        have hab : k_ab (kA_V A (k_m σ) H.size) (k_newV σ x) (k_m σ) = (if k_kd σ x.2.2.1 = 6 then some (a_ad A x.2.2.1) else none) := by
          unfold k_ab k_of
          rw [eC]
          rw [show k_kd (k_newV σ x) x.2.2.1 = k_kd σ x.2.2.1 from congrArg (fun q : kC => q.1) (up1_o _ _ (by omega)), show a_ad (kA_V A (k_m σ) H.size) x.2.2.1 = a_ad A x.2.2.1 from up1_o _ _ (by omega)]
        rw [hab]
        rfl
      · rw [if_neg h6, if_neg h6]
        rfl
    unfold co_at
    rw [hco, e1]
    unfold k_ci k_kd
    rw [eC, ← hci]
    exact hc
  · unfold k_bs
    rw [eC]
    rw [show (k_newV σ x).2.1 x.2.1 = σ.2.1 x.2.1 from up1_o _ _ (by omega)]
    exact ⟨by omega, hx.2⟩
  · unfold k_bs at h9
    rw [eC] at h9
    omega
theorem kA_ext.B {m : Nat} : kA_ext H.size A (kA_B A m H.size) := ⟨rfl, fun q hq => by
  show (if q = H.size then _ else _) = _
  rw [if_neg (by omega), if_neg (by omega), if_neg (by omega), if_neg (by omega), if_neg (by omega)]⟩
theorem kA_ext.V {m : Nat} : kA_ext H.size A (kA_V A m H.size) := ⟨rfl, fun q hq => by
  show (if q = H.size then _ else _) = _
  rw [if_neg (by omega), if_neg (by omega)]⟩
end Grow
