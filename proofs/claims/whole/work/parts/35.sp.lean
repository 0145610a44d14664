/-! PART sp: the spec of each call -/
def n_bkt (kd : Int32) (r n : Nat) : Nat := if (kd = 2 ∨ kd = 3) ∧ 3 * r < 4 * n then 2 * r else r
def S_new (kd : Int32) (s : kS) (key v : Int32) : kS := (s_ct s + 1, s_ch s + 1, n_bkt kd (s_ro s) (s_ct s + 1), ym_ad (s_nu s) (ym_pl kd (s_nu s) key (s_ct s)) (s_ct s) key, ym_ad (s_vl s) (ym_pl kd (s_nu s) key (s_ct s)) (s_ct s) v)
def S_key (kd : Int32) (s : kS) (key v : Int32) : kS := if kd = 3 ∧ 7 ≤ s_ct s + 1 then S_take (S_new kd s key v) 0 else S_new kd s key v
def S_use (kd : Int32) (s : kS) (p : Nat) (key : Int32) : kS := if kd = 3 ∧ p + 1 < s_ct s then (s_ct s, s_ch s + 1, s_ro s, upd (ym_sh (s_nu s) p (s_ct s - 1)) (s_ct s - 1) key, upd (ym_sh (s_vl s) p (s_ct s - 1)) (s_ct s - 1) (s_vl s p)) else s
theorem n_bkt_eq {kd : Int32} {r n : Nat} (hr : r ≤ 64) (hn : n ≤ 25) : ym_bkt kd (nI r) n = nI (n_bkt kd r n) := by
  unfold ym_bkt n_bkt
  have e : nI r * 3 < nI n * 4 ↔ 3 * r < 4 * n := by
    rw [show (3 : Int32) = nI 3 from rfl, show (4 : Int32) = nI 4 from rfl, pk_mul, pk_mul, nI_ltI (by omega) (by omega)]
    omega
  by_cases h : (kd = 2 ∨ kd = 3) ∧ 3 * r < 4 * n
  · rw [if_pos h, if_pos ⟨h.1, e.mpr h.2⟩, show (2 : Int32) = nI 2 from rfl, pk_mul, Nat.mul_comm]
  · rw [if_neg h, if_neg (fun q => h ⟨q.1, e.mp q.2⟩)]
section Sp
variable (σ : ks) (x : Int32)
abbrev k_kb (σ : ks) (c : Nat) : Int32 := k_kd σ (k_bs σ c)
def sp_kind : kr := kbind (ch_con σ x) σ (none, k_kd σ (cN x), σ)
def sp_size : kr := kbind (ch_con σ x) σ (kdem (!k_stale σ (cN x)) e_rt σ (none, nI (k_size σ (cN x)), σ))
def sp_get (p : Int32) : kr := kbind (ch_fl σ x) σ (kdem (ym_inb p (k_size σ (cN x))) e_ns σ (none, s_nu (k_B σ (cN x)) (k_start σ (cN x) + cN p), σ))
def sp_set (p y : Int32) : kr := kbind (ch_fl σ x) σ (kdem (ym_inb p (k_size σ (cN x))) e_ns σ (none, s_nu (k_B σ (cN x)) (k_start σ (cN x) + cN p), k_setS σ (k_bs σ (cN x)) (S_nu (k_B σ (cN x)) (k_start σ (cN x) + cN p) y)))
def k_toi (c : Nat) (p : Int32) : Bool := decide (k_kd σ c = 5) || (!decide (p < 0) && !decide (nI (k_size σ c) < p))
def k_ins (c : Nat) (p y : Int32) : Nat := if k_kd σ c = 5 then ym_cnt (ym_bel (s_nu (k_B σ c)) y 1) (s_ct (k_B σ c)) else k_start σ c + cN p
def sp_insert (p y : Int32) : kr := kbind (ch_flh σ x) σ (kdem (k_toi σ (cN x) p) e_ns σ (kdem (!decide (24 ≤ s_ct (k_B σ (cN x)))) e_is σ (none, 0, k_bring σ (cN x) (k_ins σ (cN x) p y) y)))
def k_whe (c : Nat) (p : Int32) : Int32 := if k_kd σ c = 5 then 0 else p
def sp_remove (p : Int32) : kr := kbind (ch_flh σ x) σ (kdem (ym_inb (k_whe σ (cN x) p) (k_size σ (cN x))) e_ns σ (none, s_nu (k_B σ (cN x)) (k_start σ (cN x) + cN (k_whe σ (cN x) p)), k_take σ (cN x) (k_start σ (cN x) + cN (k_whe σ (cN x) p))))
def k_btw (h n : Int32) : Bool := !decide (h < 0) && !decide (n < h)
def sp_sort (how : Int32) : kr := kbind (ch_fl σ x) σ (kdem (k_btw how 2) e_ia σ (none, 0, k_arr σ (cN x) how))
def sp_put (key v : Int32) : kr := kbind (ch_map σ x) σ (kbind (ch_key σ (cN x) key) σ (match k_at σ (cN x) key with
  | none => (none, 1, k_setS σ (k_bs σ (cN x)) (S_key (k_kb σ (cN x)) (k_B σ (cN x)) key v))
  | some p => (none, 0, k_setS σ (k_bs σ (cN x)) (S_use (k_kb σ (cN x)) (S_vl (k_B σ (cN x)) p v) p key))))
def sp_merge (key v : Int32) : kr := kbind (ch_map σ x) σ (kbind (ch_key σ (cN x) key) σ (match k_at σ (cN x) key with
  | none => (none, v, k_setS σ (k_bs σ (cN x)) (S_key (k_kb σ (cN x)) (k_B σ (cN x)) key v))
  | some p => (none, s_vl (k_B σ (cN x)) p + v, k_setS σ (k_bs σ (cN x)) (S_use (k_kb σ (cN x)) (S_vl (k_B σ (cN x)) p (s_vl (k_B σ (cN x)) p + v)) p key))))
def sp_has (key : Int32) : kr := kbind (ch_map σ x) σ (match k_at σ (cN x) key with | none => (none, 0, σ) | some _ => (none, 1, σ))
def sp_value (key : Int32) : kr := kbind (ch_map σ x) σ (match k_at σ (cN x) key with | none => (some e_ns, 0, σ) | some p => (none, s_vl (k_B σ (cN x)) p, k_setS σ (k_bs σ (cN x)) (S_use (k_kb σ (cN x)) (k_B σ (cN x)) p key)))
def sp_drop (key : Int32) : kr := kbind (ch_map σ x) σ (match k_at σ (cN x) key with | none => (some e_ns, 0, σ) | some p => (none, s_vl (k_B σ (cN x)) p, k_take σ (cN x) p))
def k_wk (how : Int32) : Int32 := if how = 1 ∨ how = 3 then 1 else 0
def k_nr (c : Nat) (key how : Int32) : Int32 := if 1 < how then nI (min (ym_cnt (ym_bel (s_nu (k_B σ c)) key (k_wk how)) (s_ct (k_B σ c)) - k_start σ c) (k_size σ c)) else nI (min (ym_cnt (ym_bel (s_nu (k_B σ c)) key (k_wk how)) (s_ct (k_B σ c)) - k_start σ c) (k_size σ c)) - 1
def sp_near (key how : Int32) : kr := kbind (ch_con σ x) σ (kdem (k_iss (k_kd σ (cN x))) e_uo σ (kdem (k_btw how 3) e_ia σ (kdem (ym_inb (k_nr σ (cN x) key how) (k_size σ (cN x))) e_ns σ (none, s_nu (k_B σ (cN x)) (k_start σ (cN x) + cN (k_nr σ (cN x) key how)), σ))))
def sp_room : kr := kbind (ch_con σ x) σ (kdem (decide (k_kd σ (cN x) = 0) || k_ish (k_kd σ (cN x))) e_uo σ (none, nI (s_ro (k_B σ (cN x))), σ))
def k_bu (s : kS) (key : Int32) : Nat := ym_cnt (fun i => decide (ym_bk (s_nu s i) (nI (s_ro s)) = ym_bk key (nI (s_ro s)))) (s_ct s)
def sp_bucket (key : Int32) : kr := kbind (ch_con σ x) σ (kdem (k_ish (k_kd σ (cN x))) e_uo σ (none, nI (k_bu (k_B σ (cN x)) key), σ))
def sp_sift (by_ rest : Int32) : kr := kbind (ch_con σ x) σ (kdem (!decide (k_kd σ (cN x) = 5)) e_uo σ (kdem (!k_stale σ (cN x)) e_rt σ (kdem (!decide (by_ < 1)) e_ia σ (none, nI (k_sift (cN x) by_ rest (k_size σ (cN x)) σ).2, (k_sift (cN x) by_ rest (k_size σ (cN x)) σ).1))))
def k_sam (c o : Nat) : Bool := if (k_isl (k_kd σ c) && k_isl (k_kd σ o)) = true then k_eqn σ c o else k_ism (k_kd σ c) && k_ism (k_kd σ o) && k_eqp σ c o
def sp_same (y : Int32) : kr := kbind (ch_con σ x) σ (kbind (ch_con σ y) σ (kdem (!k_stale σ (cN x)) e_rt σ (kdem (!k_stale σ (cN y)) e_rt σ (none, ym_n (k_sam σ (cN x) (cN y)), σ))))
def sp_open (y : Int32) : kr := kdem (ym_inb x 4) e_io σ (kbind (ch_con σ y) σ (kdem (!decide (k_kd σ (cN y) = 5)) e_uo σ (kdem (!k_stale σ (cN y)) e_rt σ (none, 0, k_setW σ (cN x) (some (cN y), 0, -1, s_ch (k_B σ (cN y)))))))
def k_nx (i : Nat) (e : Int32) : Int32 := if e = 0 then nI (k_W σ i).2.1 - 1 else nI (k_W σ i).2.1
def sp_next (e : Int32) : kr := kbind (ch_wk σ x) σ (kdem (!decide (e = 0) || k_isl (k_kd σ (k_ov σ (cN x)))) e_uo σ (kdem (!k_lost σ (cN x) (k_ov σ (cN x))) e_rt σ (kdem (ym_inb (k_nx σ (cN x) e) (k_size σ (k_ov σ (cN x)))) e_ns σ
  (none, s_nu (k_B σ (k_ov σ (cN x))) (k_start σ (k_ov σ (cN x)) + cN (k_nx σ (cN x) e)), k_setW σ (cN x) ((k_W σ (cN x)).1, if e = 0 then cN (k_nx σ (cN x) e) else cN (k_nx σ (cN x) e) + 1, nI (cN (k_nx σ (cN x) e)), (k_W σ (cN x)).2.2.2)))))
def sp_left : kr := kbind (ch_wk σ x) σ (kdem (!k_lost σ (cN x) (k_ov σ (cN x))) e_rt σ (none, nI (k_size σ (k_ov σ (cN x))) - nI (k_W σ (cN x)).2.1, σ))
def k_la (i : Nat) : Nat := cN (k_W σ i).2.2.1
def sp_erase : kr := kbind (ch_wk σ x) σ (kdem (!k_lost σ (cN x) (k_ov σ (cN x))) e_rt σ (kdem (!decide ((k_W σ (cN x)).2.2.1 = -1)) e_ia σ
  (none, 0, k_setW (k_take σ (k_ov σ (cN x)) (k_start σ (k_ov σ (cN x)) + k_la σ (cN x))) (cN x) (some (k_ov σ (cN x)), k_la σ (cN x), -1, s_ch (k_B (k_take σ (k_ov σ (cN x)) (k_start σ (k_ov σ (cN x)) + k_la σ (cN x))) (k_ov σ (cN x)))))))
def sp_assign (y : Int32) : kr := kbind (ch_wk σ x) σ (kdem (!k_lost σ (cN x) (k_ov σ (cN x))) e_rt σ (kdem (!decide ((k_W σ (cN x)).2.2.1 = -1)) e_ia σ
  (if k_isl (k_kd σ (k_ov σ (cN x))) = true then (none, s_nu (k_B σ (k_ov σ (cN x))) (k_start σ (k_ov σ (cN x)) + k_la σ (cN x)), k_setS σ (k_bs σ (k_ov σ (cN x))) (S_nu (k_B σ (k_ov σ (cN x))) (k_start σ (k_ov σ (cN x)) + k_la σ (cN x)) y))
    else (none, s_vl (k_B σ (k_ov σ (cN x))) (k_start σ (k_ov σ (cN x)) + k_la σ (cN x)), k_setS σ (k_bs σ (k_ov σ (cN x))) (S_vl (k_B σ (k_ov σ (cN x))) (k_start σ (k_ov σ (cN x)) + k_la σ (cN x)) y)))))
def sp_plant (y : Int32) : kr := kbind (ch_wk σ x) σ (kdem (k_isl (k_kd σ (k_ov σ (cN x)))) e_uo σ (kdem (!k_lost σ (cN x) (k_ov σ (cN x))) e_rt σ (kdem (!decide (24 ≤ s_ct (k_B σ (k_ov σ (cN x))))) e_is σ
  (none, 0, k_setW (k_bring σ (k_ov σ (cN x)) (k_start σ (k_ov σ (cN x)) + (k_W σ (cN x)).2.1) y) (cN x) (some (k_ov σ (cN x)), (k_W σ (cN x)).2.1 + 1, -1, s_ch (k_B (k_bring σ (k_ov σ (cN x)) (k_start σ (k_ov σ (cN x)) + (k_W σ (cN x)).2.1) y) (k_ov σ (cN x))))))))
end Sp
theorem k_ism6 {kd : Int32} (h : k_ism kd = true) : ¬ kd = 6 := fun q => by
  rw [q] at h
  exact absurd h (by decide)
