/-! how many bits of a long are set -/
def vl : List Nat → Nat
  | [] => 0
  | b :: r => b + 256 * vl r
def cb (p : Nat → Bool) : Nat → Nat
  | 0 => 0
  | B + 1 => cb p B + (if p B = true then 1 else 0)
theorem and256 {b m v u : Nat} (hb : b < 256) (hm : m < 256) : (b + 256 * v) &&& (m + 256 * u) = (b &&& m) + 256 * (v &&& u) := by
  have h1 := Nat.and_div_two_pow (a := b + 256 * v) (b := m + 256 * u) (n := 8)
  have h2 := Nat.and_mod_two_pow (a := b + 256 * v) (b := m + 256 * u) (n := 8)
  rw [show (b + 256 * v) / 2 ^ 8 = v by omega, show (m + 256 * u) / 2 ^ 8 = u by omega] at h1
  rw [show (b + 256 * v) % 2 ^ 8 = b by omega, show (m + 256 * u) % 2 ^ 8 = m by omega] at h2
  omega
theorem dg1 : ∀ b, b < 256 → ∀ q, q < 2 → (b / 2 + 128 * q) &&& 85 = (b / 2) &&& 85 := by decide +kernel
theorem dg2 : ∀ b, b < 256 → ∀ q, q < 4 → (b / 4 + 64 * q) &&& 51 = (b / 4) &&& 51 := by decide +kernel
theorem dg3 : ∀ b, b < 256 → b / 16 ≤ 4 → b % 16 ≤ 4 → ∀ q, q < 5 → b + b / 16 + 16 * q < 256 ∧ (b + b / 16 + 16 * q) &&& 15 = (b + b / 16) &&& 15 := by decide +kernel
theorem dgA : ∀ b, b < 256 → (b / 2) &&& 85 ≤ b := by decide +kernel
def t1 (b : Nat) : Nat := b - ((b / 2) &&& 85)
def t2 (b : Nat) : Nat := (b &&& 51) + ((b / 4) &&& 51)
def t3 (b : Nat) : Nat := (b + b / 16) &&& 15
theorem dgB : ∀ b, b < 256 → t2 (t1 b) / 16 ≤ 4 ∧ t2 (t1 b) % 16 ≤ 4 ∧ t2 (t1 b) < 256 ∧ t1 b < 256 ∧ t3 (t2 (t1 b)) = cb (fun j => b.testBit j) 8 := by decide +kernel
theorem vs1 : ∀ l : List Nat, (∀ b, b ∈ l → b < 256) → (vl l / 2) &&& vl (l.map (fun _ => 85)) = vl (l.map (fun b => (b / 2) &&& 85))
  | [], _ => by simp [vl]
  | b :: r, h => by
    have ih := vs1 r (fun x hx => h x (List.mem_cons_of_mem _ hx))
    have hb := h b (List.mem_cons_self ..)
    show ((b + 256 * vl r) / 2) &&& (85 + 256 * vl (r.map (fun _ => 85))) = ((b / 2) &&& 85) + 256 * vl (r.map (fun b => (b / 2) &&& 85))
    rw [show (b + 256 * vl r) / 2 = (b / 2 + 128 * (vl r % 2)) + 256 * (vl r / 2) by omega, and256 (by omega) (by decide), dg1 b hb _ (Nat.mod_lt _ (by decide)), ih]
theorem vs1b : ∀ l : List Nat, (∀ b, b ∈ l → b < 256) → vl l = vl (l.map t1) + vl (l.map (fun b => (b / 2) &&& 85))
  | [], _ => rfl
  | b :: r, h => by
    have ih := vs1b r (fun x hx => h x (List.mem_cons_of_mem _ hx))
    have hb := dgA b (h b (List.mem_cons_self ..))
    show b + 256 * vl r = (t1 b + 256 * vl (r.map t1)) + (((b / 2) &&& 85) + 256 * vl (r.map (fun b => (b / 2) &&& 85)))
    unfold t1
    have : vl r = vl (r.map (fun b => b - ((b / 2) &&& 85))) + vl (r.map (fun b => (b / 2) &&& 85)) := ih
    omega
theorem vs2 : ∀ l : List Nat, (∀ b, b ∈ l → b < 256) → (vl l &&& vl (l.map (fun _ => 51))) + ((vl l / 4) &&& vl (l.map (fun _ => 51))) = vl (l.map t2)
  | [], _ => by simp [vl]
  | b :: r, h => by
    have ih := vs2 r (fun x hx => h x (List.mem_cons_of_mem _ hx))
    have hb := h b (List.mem_cons_self ..)
    show ((b + 256 * vl r) &&& (51 + 256 * vl (r.map (fun _ => 51)))) + (((b + 256 * vl r) / 4) &&& (51 + 256 * vl (r.map (fun _ => 51)))) = t2 b + 256 * vl (r.map t2)
    rw [show (b + 256 * vl r) / 4 = (b / 4 + 64 * (vl r % 4)) + 256 * (vl r / 4) by omega, and256 (by omega) (by decide), and256 (by omega) (by decide), dg2 b hb _ (Nat.mod_lt _ (by decide)), ← ih]
    unfold t2
    omega
theorem vl16 : ∀ l : List Nat, (∀ b, b ∈ l → b % 16 ≤ 4) → vl l % 16 < 5
  | [], _ => by simp [vl]
  | b :: r, h => by
    have hb := h b (List.mem_cons_self ..)
    show (b + 256 * vl r) % 16 < 5
    omega
theorem vs3 : ∀ l : List Nat, (∀ b, b ∈ l → b < 256 ∧ b / 16 ≤ 4 ∧ b % 16 ≤ 4) → (vl l + vl l / 16) &&& vl (l.map (fun _ => 15)) = vl (l.map t3)
  | [], _ => by simp [vl]
  | b :: r, h => by
    have ih := vs3 r (fun x hx => h x (List.mem_cons_of_mem _ hx))
    obtain ⟨h1, h2, h3⟩ := h b (List.mem_cons_self ..)
    have hq := vl16 r (fun x hx => (h x (List.mem_cons_of_mem _ hx)).2.2)
    obtain ⟨g1, g2⟩ := dg3 b h1 h2 h3 _ hq
    show ((b + 256 * vl r) + (b + 256 * vl r) / 16) &&& (15 + 256 * vl (r.map (fun _ => 15))) = t3 b + 256 * vl (r.map t3)
    rw [show (b + 256 * vl r) + (b + 256 * vl r) / 16 = (b + b / 16 + 16 * (vl r % 16)) + 256 * (vl r + vl r / 16) by omega, and256 g1 (by decide), g2, ih]
    rfl
