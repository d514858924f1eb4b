/-! what a reading of a concept gives, of both -/
theorem us_rr {i : Nat → Int32} : us i [(3, i 3), (4, i 4)] = i := by
  funext j
  show (if j = 3 then i 3 else if j = 4 then i 4 else i j) = i j
  by_cases h : j = 3
  · rw [if_pos h, h]
  · rw [if_neg h]
    by_cases h' : j = 4
    · rw [if_pos h', h']
    · rw [if_neg h']
/-- text: what is printed of a concept is not longer than its span and twice its weight -/
def TxC (fr : Nat) (wT : Int64) (fr' : Nat) (x3 : Int32) (p w : Nat) : Prop := ∃ pe br : Nat, br ≤ 1 ∧ pe ≤ fr' ∧ (x3 = 1 → pe + 1 ≤ fr' + br) ∧ p + br + (if wT = lN 40 then 1 else 0) + fr ≤ pe + 2 * w
def OkD (n : Nat) (tx : Nat → Int32) (S Od d W fr nd no sz nn nr : Nat) (o φ wt pl : Nat → Nat) (wT : Int64) (iB : Nat → Int32) (aC : Nat → Nat → Int32) (iM : Nat → Int32) (aM : Nat → Nat → Int32) (c m nx' fr' nd' no' sz' na' nn' nr' : Nat) (o' φ' wt' pl' : Nat → Nat) (iT' : Nat → Int32) (wT' : Int64) (iB' : Nat → Int32) (lB' : Nat → Nat → Int64) (iC' : Nat → Int32) (aC' : Nat → Nat → Int32) (X : Nat → Int32) (Y : Nat → Nat → Int32) : Prop := PS n tx S Od nx' fr' nd' no' sz' na' nn' nr' o' φ' wt' pl' iT' wT' iB' lB' iC' aC' X Y ∧ ExS nd no sz o φ wt pl aC aM nd' no' sz' o' φ' wt' pl' aC' Y ∧ FrI tc iM X ∧ FrA ta aM Y ∧ (∀ j, j ≠ 1 → j ≠ 3 → j ≠ 5 → iB' j = iB j) ∧ X 54 = nI W ∧ X 49 = nI d ∧ X 55 = nI (200 + m) ∧ (∃ j, j < no' ∧ o' j = m) ∧ φ' m = c ∧ (∀ j, j < W → Y 52 j = aM 52 j ∧ Y 53 j = aM 53 j) ∧ no' + nd = no + nd' ∧ sz' + nd ≤ sz + nd' ∧ nd + wt' c ≤ nd' ∧ fr < fr' ∧ TxC fr wT fr' (X 3) (plx (aC' 0) pl' 3 c) (wt' c) ∧ nn ≤ nn' ∧ nr ≤ nr' ∧ ∀ r, r < nr → rlM Y r = rlM aM r
def Flt (fr : Nat) (iM : Nat → Int32) (aM : Nat → Nat → Int32) (q : Option (Int32 × (Nat → Int32) × (Nat → Int32) × Int64 × (Nat → Int32) × (Nat → Nat → Int64) × (Nat → Int32) × (Nat → Nat → Int32))) (R : Nat → Option (Int32 × (Nat → Int32) × (Nat → Nat → Int32))) : Prop := ∃ (F p k : Nat) (v : Int32) (X : Nat → Int32) (Y : Nat → Nat → Int32) (iR' : Nat → Int32) (z : (Nat → Int32) × Int64 × (Nat → Int32) × (Nat → Nat → Int64) × (Nat → Int32) × (Nat → Nat → Int32)), q = some (-1, iR', z) ∧ 1 ≤ F ∧ F ≤ 6 ∧ p ≤ 2000 ∧ iR' 3 = nI F ∧ iR' 4 = nI p ∧ k + fr ≤ 2003 ∧ (∀ i, R (i + k) = some (v, X, Y)) ∧ X 46 = nI F ∧ X 47 = nI p ∧ FrI tc iM X ∧ FrA ta aM Y
def OneO (N n : Nat) (tx : Nat → Int32) (S Od d W fr nd no sz nn nr : Nat) (o φ wt pl : Nat → Nat) (wT : Int64) (iR iB : Nat → Int32) (aC : Nat → Nat → Int32) (iM : Nat → Int32) (aM : Nat → Nat → Int32) (jI : Nat → Int32) (jA : Nat → Nat → Int32) (q : Option (Int32 × (Nat → Int32) × (Nat → Int32) × Int64 × (Nat → Int32) × (Nat → Nat → Int64) × (Nat → Int32) × (Nat → Nat → Int32))) : Prop := (∃ (c m nx' fr' nd' no' sz' na' nn' nr' : Nat) (o' φ' wt' pl' : Nat → Nat) (iT' : Nat → Int32) (wT' : Int64) (iB' : Nat → Int32) (lB' : Nat → Nat → Int64) (iC' : Nat → Int32) (aC' : Nat → Nat → Int32) (X : Nat → Int32) (Y : Nat → Nat → Int32) (k f : Nat) (oI : Nat → Int32) (oA : Nat → Nat → Int32), q = some (nI c, iR, iT', wT', iB', lB', iC', aC') ∧ OkD n tx S Od d W fr nd no sz nn nr o φ wt pl wT iB aC iM aM c m nx' fr' nd' no' sz' na' nn' nr' o' φ' wt' pl' iT' wT' iB' lB' iC' aC' X Y ∧ k + fr ≤ fr' ∧ N + d ≤ f + 13 ∧ ∀ i, f_M_readConcept_28 N jI jA (i + k) 1 iM aM = (f_M_stand_5 N oI oA f X Y).bind (fun q => f_M_readConcept_28 N jI jA i 1 q.1 q.2)) ∨ Flt fr iM aM q (fun i => f_M_readConcept_28 N jI jA i 1 iM aM)
def P1 (N n : Nat) (tx : Nat → Int32) (S Od d : Nat) : Prop := ∀ (W nx fr nd no sz na nn nr : Nat) (o φ wt pl : Nat → Nat) (iR iT : Nat → Int32) (wT : Int64) (iB : Nat → Int32) (lB : Nat → Nat → Int64) (aB : Nat → Nat → Int32) (iC : Nat → Int32) (aC : Nat → Nat → Int32) (iM : Nat → Int32) (aM : Nat → Nat → Int32) (jI : Nat → Int32) (jA : Nat → Nat → Int32), PS n tx S Od nx fr nd no sz na nn nr o φ wt pl iT wT iB lB iC aC iM aM → iM 56 = nI 1 → iM 54 = nI W → 1 ≤ W → W ≤ 3 + 3 * d → iM 49 = nI d → OneO N n tx S Od d W fr nd no sz nn nr o φ wt pl wT iR iB aC iM aM jI jA (f_R_takeOne N (14 - d) (nI d) iR iT wT tx iB lB aB iC aC)
theorem run_one {N i : Nat} {jI iM : Nat → Int32} {jA aM : Nat → Nat → Int32} (h : iM 46 = 0) (h' : iM 56 = nI 1) : f_M_readConcept_28 N jI jA (i + 1) 1 iM aM = (f_M_readOne N iM aM).bind (fun q => f_M_readConcept_28 N jI jA i 1 q.1 q.2) := by
  rw [f_M_readConcept_28, if_neg i1z, h, M_fine0, Option.bind_some, if_neg i1z, h', if_neg (show ¬ nI 1 = 0 by decide)]
theorem run_behind {N i : Nat} {jI iM : Nat → Int32} {jA aM : Nat → Nat → Int32} (h : iM 46 = 0) (h' : iM 56 = 0) : f_M_readConcept_28 N jI jA (i + 1) 1 iM aM = (f_M_readBehind N iM aM).bind (fun q => f_M_readConcept_28 N jI jA i q.1 q.2.1 q.2.2) := by
  rw [f_M_readConcept_28, if_neg i1z, h, M_fine0, Option.bind_some, if_neg i1z, h', if_pos rfl]
theorem fine_bad {F : Nat} (h1 : 1 ≤ F) (h6 : F ≤ 6) : f_M_fine (nI F) = some 0 := by
  unfold f_M_fine
  rw [if_neg (fun z => by have := (nI_eq (b := 0) (by omega) (by omega)).mp z; omega)]
theorem run_bad {N i F : Nat} {jI iM : Nat → Int32} {jA aM : Nat → Nat → Int32} (h : iM 46 = nI F) (h1 : 1 ≤ F) (h6 : F ≤ 6) : f_M_readConcept_28 N jI jA (i + 1) 1 iM aM = some (iM 55, iM, aM) := by
  rw [f_M_readConcept_28, if_neg i1z, h, fine_bad h1 h6, Option.bind_some, if_pos rfl]
  rfl
/-- a fault at once -/
theorem flt_now {N fr F p : Nat} {jI iM X : Nat → Int32} {jA aM Y : Nat → Nat → Int32} {q : Option (Int32 × (Nat → Int32) × (Nat → Int32) × Int64 × (Nat → Int32) × (Nat → Nat → Int64) × (Nat → Int32) × (Nat → Nat → Int32))} {iR' : Nat → Int32} (hn : fr ≤ 2000) (h46 : iM 46 = 0) (h56 : iM 56 = nI 1) (hq : ∃ z, q = some (-1, iR', z)) (h1 : 1 ≤ F) (h6 : F ≤ 6) (hp : p ≤ 2000) (e3 : iR' 3 = nI F) (e4 : iR' 4 = nI p) (hr : f_M_readOne N iM aM = some (X, Y)) (x46 : X 46 = nI F) (x47 : X 47 = nI p) (hI : FrI tc iM X) (hA : FrA ta aM Y) : Flt fr iM aM q (fun i => f_M_readConcept_28 N jI jA i 1 iM aM) := by
  obtain ⟨z, hq⟩ := hq
  refine ⟨F, p, 2, X 55, X, Y, iR', z, hq, h1, h6, hp, e3, e4, by omega, fun i => ?_, x46, x47, hI, hA⟩
  show f_M_readConcept_28 N jI jA ((i + 1) + 1) 1 iM aM = _
  rw [run_one h46 h56, hr, Option.bind_some]
  exact run_bad x46 h1 h6
