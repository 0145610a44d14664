/-! PART ex: what each call may throw -/
def ex_in (l : List String) (r : kr) : Prop := ∀ E, r.1 = some E → E ∈ l
theorem ex_kb {l : List String} {o : Option String} {σ : ks} {r : kr} (h0 : ∀ E, o = some E → E ∈ l) (h : ex_in l r) : ex_in l (kbind o σ r) := by
  cases o with
  | none => exact h
  | some E => exact fun E' e => h0 E' e
theorem ex_kd {l : List String} {b : Bool} {E : String} {σ : ks} {r : kr} (h0 : E ∈ l) (h : ex_in l r) : ex_in l (kdem b E σ r) := by
  cases b with
  | true => exact h
  | false => exact fun E' e => by cases e; exact h0
theorem ex_no {l : List String} {v : Int32} {σ : ks} : ex_in l (none, v, σ) := fun E e => by cases e
theorem ex_so {l : List String} {v : Int32} {σ : ks} {E : String} (h : E ∈ l) : ex_in l (some E, v, σ) := fun E' e => by cases e; exact h
theorem ex_con {l : List String} {σ : ks} {x : Int32} (h : e_io ∈ l) : ∀ E, ch_con σ x = some E → E ∈ l := fun E e => by
  unfold ch_con at e
  split at e
  · cases e
  · cases e; exact h
theorem ex_map {l : List String} {σ : ks} {x : Int32} (h : e_io ∈ l) (h2 : e_uo ∈ l) : ∀ E, ch_map σ x = some E → E ∈ l := fun E e => by
  unfold ch_map at e
  split at e
  · split at e
    · cases e
    · cases e; exact h2
  · cases e; exact h
theorem ex_fl {l : List String} {σ : ks} {x : Int32} (h : e_io ∈ l) (h2 : e_uo ∈ l) (h3 : e_rt ∈ l) : ∀ E, ch_fl σ x = some E → E ∈ l := fun E e => by
  unfold ch_fl at e
  split at e
  · split at e
    · split at e
      · cases e; exact h3
      · cases e
    · cases e; exact h2
  · cases e; exact h
theorem ex_flh {l : List String} {σ : ks} {x : Int32} (h : e_io ∈ l) (h2 : e_uo ∈ l) (h3 : e_rt ∈ l) : ∀ E, ch_flh σ x = some E → E ∈ l := fun E e => by
  unfold ch_flh at e
  split at e
  · split at e
    · split at e
      · cases e; exact h3
      · cases e
    · cases e; exact h2
  · cases e; exact h
theorem ex_wk {l : List String} {σ : ks} {x : Int32} (h : e_io ∈ l) : ∀ E, ch_wk σ x = some E → E ∈ l := fun E e => by
  unfold ch_wk at e
  split at e
  · split at e
    · cases e; exact h
    · cases e
  · cases e; exact h
theorem ex_key {l : List String} {σ : ks} {c : Nat} {x : Int32} (h : e_ia ∈ l) (h2 : e_is ∈ l) : ∀ E, ch_key σ c x = some E → E ∈ l := fun E e => by
  unfold ch_key at e
  split at e
  · split at e
    · cases e
    · split at e
      · cases e; exact h2
      · cases e
  · cases e; exact h
theorem ex_create_ (σ : ks) (x : Int32) : ex_in [e_ia, e_is] (sp_create σ x) := ex_kd (by decide) (ex_kd (by decide) ex_no)
theorem ex_view_ (σ : ks) (x y v : Int32) : ex_in [e_io, e_uo, e_ia, e_is, e_rt] (sp_view σ x y v) := ex_kb (ex_con (by decide)) (ex_kd (by decide) (ex_kd (by decide) (ex_kd (by decide) (ex_kd (by decide) ex_no))))
theorem ex_kind_ (σ : ks) (x : Int32) : ex_in [e_io] (sp_kind σ x) := ex_kb (ex_con (by decide)) ex_no
theorem ex_size_ (σ : ks) (x : Int32) : ex_in [e_io, e_rt] (sp_size σ x) := ex_kb (ex_con (by decide)) (ex_kd (by decide) ex_no)
theorem ex_get_ (σ : ks) (x y : Int32) : ex_in [e_io, e_uo, e_ns, e_rt] (sp_get σ x y) := ex_kb (ex_fl (by decide) (by decide) (by decide)) (ex_kd (by decide) ex_no)
theorem ex_set_ (σ : ks) (x y v : Int32) : ex_in [e_io, e_uo, e_ns, e_rt] (sp_set σ x y v) := ex_kb (ex_fl (by decide) (by decide) (by decide)) (ex_kd (by decide) ex_no)
theorem ex_insert_ (σ : ks) (x y v : Int32) : ex_in [e_io, e_uo, e_ns, e_is, e_rt] (sp_insert σ x y v) := ex_kb (ex_flh (by decide) (by decide) (by decide)) (ex_kd (by decide) (ex_kd (by decide) ex_no))
theorem ex_remove_ (σ : ks) (x y : Int32) : ex_in [e_io, e_uo, e_ns, e_rt] (sp_remove σ x y) := ex_kb (ex_flh (by decide) (by decide) (by decide)) (ex_kd (by decide) ex_no)
theorem ex_sort_ (σ : ks) (x y : Int32) : ex_in [e_io, e_uo, e_ia, e_rt] (sp_sort σ x y) := ex_kb (ex_fl (by decide) (by decide) (by decide)) (ex_kd (by decide) ex_no)
theorem ex_put_ (σ : ks) (x y v : Int32) : ex_in [e_io, e_uo, e_ia, e_is] (sp_put σ x y v) := ex_kb (ex_map (by decide) (by decide)) (ex_kb (ex_key (by decide) (by decide)) (by split <;> exact ex_no))
theorem ex_merge_ (σ : ks) (x y v : Int32) : ex_in [e_io, e_uo, e_ia, e_is] (sp_merge σ x y v) := ex_kb (ex_map (by decide) (by decide)) (ex_kb (ex_key (by decide) (by decide)) (by split <;> exact ex_no))
theorem ex_has_ (σ : ks) (x y : Int32) : ex_in [e_io, e_uo] (sp_has σ x y) := ex_kb (ex_map (by decide) (by decide)) (by split <;> exact ex_no)
theorem ex_value_ (σ : ks) (x y : Int32) : ex_in [e_io, e_uo, e_ns] (sp_value σ x y) := ex_kb (ex_map (by decide) (by decide)) (by split <;> first | exact ex_no | exact ex_so (by decide))
theorem ex_drop_ (σ : ks) (x y : Int32) : ex_in [e_io, e_uo, e_ns] (sp_drop σ x y) := ex_kb (ex_map (by decide) (by decide)) (by split <;> first | exact ex_no | exact ex_so (by decide))
theorem ex_near_ (σ : ks) (x y v : Int32) : ex_in [e_io, e_uo, e_ia, e_ns] (sp_near σ x y v) := ex_kb (ex_con (by decide)) (ex_kd (by decide) (ex_kd (by decide) (ex_kd (by decide) ex_no)))
theorem ex_room_ (σ : ks) (x : Int32) : ex_in [e_io, e_uo] (sp_room σ x) := ex_kb (ex_con (by decide)) (ex_kd (by decide) ex_no)
theorem ex_bucket_ (σ : ks) (x y : Int32) : ex_in [e_io, e_uo] (sp_bucket σ x y) := ex_kb (ex_con (by decide)) (ex_kd (by decide) ex_no)
theorem ex_sift_ (σ : ks) (x y v : Int32) : ex_in [e_io, e_uo, e_ia, e_rt] (sp_sift σ x y v) := ex_kb (ex_con (by decide)) (ex_kd (by decide) (ex_kd (by decide) (ex_kd (by decide) ex_no)))
theorem ex_same_ (σ : ks) (x y : Int32) : ex_in [e_io, e_rt] (sp_same σ x y) := ex_kb (ex_con (by decide)) (ex_kb (ex_con (by decide)) (ex_kd (by decide) (ex_kd (by decide) ex_no)))
theorem ex_open_ (σ : ks) (x y : Int32) : ex_in [e_io, e_uo, e_rt] (sp_open σ x y) := ex_kd (by decide) (ex_kb (ex_con (by decide)) (ex_kd (by decide) (ex_kd (by decide) ex_no)))
theorem ex_next_ (σ : ks) (x y : Int32) : ex_in [e_io, e_uo, e_ns, e_rt] (sp_next σ x y) := ex_kb (ex_wk (by decide)) (ex_kd (by decide) (ex_kd (by decide) (ex_kd (by decide) ex_no)))
theorem ex_left_ (σ : ks) (x : Int32) : ex_in [e_io, e_rt] (sp_left σ x) := ex_kb (ex_wk (by decide)) (ex_kd (by decide) ex_no)
theorem ex_erase_ (σ : ks) (x : Int32) : ex_in [e_io, e_ia, e_rt] (sp_erase σ x) := ex_kb (ex_wk (by decide)) (ex_kd (by decide) (ex_kd (by decide) ex_no))
theorem ex_assign_ (σ : ks) (x y : Int32) : ex_in [e_io, e_ia, e_rt] (sp_assign σ x y) := ex_kb (ex_wk (by decide)) (ex_kd (by decide) (ex_kd (by decide) (by split <;> exact ex_no)))
theorem ex_plant_ (σ : ks) (x y : Int32) : ex_in [e_io, e_uo, e_is, e_rt] (sp_plant σ x y) := ex_kb (ex_wk (by decide)) (ex_kd (by decide) (ex_kd (by decide) (ex_kd (by decide) ex_no)))
