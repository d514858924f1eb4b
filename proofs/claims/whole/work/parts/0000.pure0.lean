/-! functions changed at some places; guards -/
def us {α : Type} (f : Nat → α) : List (Nat × α) → Nat → α
  | [], j => f j
  | (k, v) :: r, j => if j = k then v else us f r j
def ins {α : Type} (k : Nat) (v : α) : List (Nat × α) → List (Nat × α)
  | [] => [(k, v)]
  | (k', v') :: r => if k = k' then (k, v) :: r else if k < k' then (k, v) :: (k', v') :: r else (k', v') :: ins k v r
theorem g_n {α : Type} {c : Prop} [Decidable c] {A : Option α} {q : α} (h : (if c then none else A) = some q) : ¬ c ∧ A = some q := by
  by_cases hc : c
  · rw [if_pos hc] at h; cases h
  · rw [if_neg hc] at h; exact ⟨hc, h⟩
theorem g_p {α : Type} {c : Prop} [Decidable c] {A : Option α} {q : α} (h : (if c then A else none) = some q) : c ∧ A = some q := by
  by_cases hc : c
  · rw [if_pos hc] at h; exact ⟨hc, h⟩
  · rw [if_neg hc] at h; cases h
theorem g_t {α : Type} {c : Prop} [Decidable c] {A B : Option α} {q : α} (h : (if c then A else B) = some q) (hc : c) : A = some q := by rwa [if_pos hc] at h
theorem g_f {α : Type} {c : Prop} [Decidable c] {A B : Option α} {q : α} (h : (if c then A else B) = some q) (hc : ¬ c) : B = some q := by rwa [if_neg hc] at h
theorem g_b {α β : Type} {o : Option α} {g : α → Option β} {q : β} (h : o.bind g = some q) : ∃ a, o = some a ∧ g a = some q := by
  cases o with
  | none => cases h
  | some a => exact ⟨a, rfl, h⟩
theorem g_zr (v : Int32) (h : vp_nar .boolean v = v) : narrow .boolean (.int v) = .int v := by
  have e : narrow .boolean (.int v) = .int (vp_nar .boolean v) := by
    first | rfl | (unfold vp_nar; simp [narrow])
  rw [e, h]
theorem lg_cmp0 {x y : Int64} : lg_cmp x y = 0 ↔ x = y := by
  unfold lg_cmp
  by_cases h1 : y < x
  · have h2 : x ≠ y := fun e => by subst e; exact absurd h1 (by simp)
    simp [h1, h2]
  · by_cases h2 : x = y
    · simp [h2]
    · simp [h1, h2]
theorem tne {x : Int32} {k : Int32} {n : Int} (hk : k.toInt = n) (h : ¬ x = k) : x.toInt ≠ n := fun e => h (Int32.toInt_inj.mp (e.trans hk.symm))
theorem us_ins_eq {α : Type} {f : Nat → α} {k : Nat} {v : α} : ∀ {l : List (Nat × α)}, us f (ins k v l) k = v
  | [] => by simp [ins, us]
  | (k', v') :: r => by
    unfold ins
    by_cases h : k = k'
    · rw [if_pos h]; simp [us]
    · rw [if_neg h]
      by_cases h2 : k < k'
      · rw [if_pos h2]; simp [us]
      · rw [if_neg h2]; simp only [us, if_neg h]; exact us_ins_eq
theorem us_ins_ne {α : Type} {f : Nat → α} {k j : Nat} {v : α} (hj : j ≠ k) : ∀ {l : List (Nat × α)}, us f (ins k v l) j = us f l j
  | [] => by simp [ins, us, hj]
  | (k', v') :: r => by
    unfold ins
    by_cases h : k = k'
    · rw [if_pos h]; subst h; simp [us, hj]
    · rw [if_neg h]
      by_cases h2 : k < k'
      · rw [if_pos h2]; simp [us, hj]
      · rw [if_neg h2]; simp only [us]; rw [us_ins_ne hj]
