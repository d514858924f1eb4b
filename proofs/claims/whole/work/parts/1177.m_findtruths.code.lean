def f_M_findTruths_109 (N : Nat) (iM14 : Int32) (iM36 : Int32) (aM8 : Nat → Int32) (aM9 : Nat → Int32) (aM10 : Nat → Int32) (aM11 : Nat → Int32) (aM13 : Nat → Int32) (aM30 : Nat → Int32) (aM32 : Nat → Int32) (aM34 : Nat → Int32) (aM35 : Nat → Int32) (aM57 : Nat → Int32) (aM58 : Nat → Int32) (aM59 : Nat → Int32) (aM60 : Nat → Int32) (k12 : Int32 → (Nat → Int32) → Option ((Nat → Int32) × (Nat → Int32) × (Nat → Int32) × (Nat → Int32))) (v1 : Int32) (v2 : Int32) (s1 : Int32) (s2 : Int32) (x_aM57 : Nat → Int32) (x_aM58 : Nat → Int32) : Option ((Nat → Int32) × (Nat → Int32) × (Nat → Int32) × (Nat → Int32)) := if s1 < 0 ∨ 102400 ≤ s1.toNatClampNeg then none else (k12 ((v2 + (1 : Int32))) ((upd x_aM57 s1.toNatClampNeg (vp_nar .boolean s2))))
def f_M_findTruths_137 (N : Nat) (iM14 : Int32) (iM36 : Int32) (aM8 : Nat → Int32) (aM9 : Nat → Int32) (aM10 : Nat → Int32) (aM11 : Nat → Int32) (aM13 : Nat → Int32) (aM30 : Nat → Int32) (aM32 : Nat → Int32) (aM34 : Nat → Int32) (aM35 : Nat → Int32) (aM57 : Nat → Int32) (aM58 : Nat → Int32) (aM59 : Nat → Int32) (aM60 : Nat → Int32) (k12 : Int32 → (Nat → Int32) → Option ((Nat → Int32) × (Nat → Int32) × (Nat → Int32) × (Nat → Int32))) (v1 : Int32) (v2 : Int32) (s1 : Int32) (s2 : Int32) (x_aM57 : Nat → Int32) (x_aM58 : Nat → Int32) : Option ((Nat → Int32) × (Nat → Int32) × (Nat → Int32) × (Nat → Int32)) := if s1 < 0 ∨ 102400 ≤ s1.toNatClampNeg then none else (k12 ((v2 + (1 : Int32))) ((upd x_aM57 s1.toNatClampNeg (vp_nar .boolean s2))))
def f_M_findTruths_194 (N : Nat) (iM14 : Int32) (iM36 : Int32) (aM8 : Nat → Int32) (aM9 : Nat → Int32) (aM10 : Nat → Int32) (aM11 : Nat → Int32) (aM13 : Nat → Int32) (aM30 : Nat → Int32) (aM32 : Nat → Int32) (aM34 : Nat → Int32) (aM35 : Nat → Int32) (aM57 : Nat → Int32) (aM58 : Nat → Int32) (aM59 : Nat → Int32) (aM60 : Nat → Int32) (k12 : Int32 → (Nat → Int32) → Option ((Nat → Int32) × (Nat → Int32) × (Nat → Int32) × (Nat → Int32))) (v1 : Int32) (v2 : Int32) (s1 : Int32) (s2 : Int32) (x_aM57 : Nat → Int32) (x_aM58 : Nat → Int32) : Option ((Nat → Int32) × (Nat → Int32) × (Nat → Int32) × (Nat → Int32)) := if s1 < 0 ∨ 102400 ≤ s1.toNatClampNeg then none else (k12 ((v2 + (1 : Int32))) ((upd x_aM57 s1.toNatClampNeg (vp_nar .boolean s2))))
def f_M_findTruths_249 (N : Nat) (iM14 : Int32) (iM36 : Int32) (aM8 : Nat → Int32) (aM9 : Nat → Int32) (aM10 : Nat → Int32) (aM11 : Nat → Int32) (aM13 : Nat → Int32) (aM30 : Nat → Int32) (aM32 : Nat → Int32) (aM34 : Nat → Int32) (aM35 : Nat → Int32) (aM57 : Nat → Int32) (aM58 : Nat → Int32) (aM59 : Nat → Int32) (aM60 : Nat → Int32) (k12 : Int32 → (Nat → Int32) → Option ((Nat → Int32) × (Nat → Int32) × (Nat → Int32) × (Nat → Int32))) (v1 : Int32) (v2 : Int32) (s1 : Int32) (s2 : Int32) (x_aM57 : Nat → Int32) (x_aM58 : Nat → Int32) : Option ((Nat → Int32) × (Nat → Int32) × (Nat → Int32) × (Nat → Int32)) := if s1 < 0 ∨ 102400 ≤ s1.toNatClampNeg then none else (k12 ((v2 + (1 : Int32))) ((upd x_aM57 s1.toNatClampNeg (vp_nar .boolean s2))))
def f_M_findTruths_304 (N : Nat) (iM14 : Int32) (iM36 : Int32) (aM8 : Nat → Int32) (aM9 : Nat → Int32) (aM10 : Nat → Int32) (aM11 : Nat → Int32) (aM13 : Nat → Int32) (aM30 : Nat → Int32) (aM32 : Nat → Int32) (aM34 : Nat → Int32) (aM35 : Nat → Int32) (aM57 : Nat → Int32) (aM58 : Nat → Int32) (aM59 : Nat → Int32) (aM60 : Nat → Int32) (k12 : Int32 → (Nat → Int32) → Option ((Nat → Int32) × (Nat → Int32) × (Nat → Int32) × (Nat → Int32))) (v1 : Int32) (v2 : Int32) (s1 : Int32) (s2 : Int32) (x_aM57 : Nat → Int32) (x_aM58 : Nat → Int32) : Option ((Nat → Int32) × (Nat → Int32) × (Nat → Int32) × (Nat → Int32)) := if s1 < 0 ∨ 102400 ≤ s1.toNatClampNeg then none else (k12 ((v2 + (1 : Int32))) ((upd x_aM57 s1.toNatClampNeg (vp_nar .boolean s2))))
def f_M_findTruths_320 (N : Nat) (iM14 : Int32) (iM36 : Int32) (aM8 : Nat → Int32) (aM9 : Nat → Int32) (aM10 : Nat → Int32) (aM11 : Nat → Int32) (aM13 : Nat → Int32) (aM30 : Nat → Int32) (aM32 : Nat → Int32) (aM34 : Nat → Int32) (aM35 : Nat → Int32) (aM57 : Nat → Int32) (aM58 : Nat → Int32) (aM59 : Nat → Int32) (aM60 : Nat → Int32) (k2 : Int32 → (Nat → Int32) → (Nat → Int32) → Option ((Nat → Int32) × (Nat → Int32) × (Nat → Int32) × (Nat → Int32))) (v1 : Int32) (x_aM57 : Nat → Int32) : Nat → Int32 → (Nat → Int32) → Option ((Nat → Int32) × (Nat → Int32) × (Nat → Int32) × (Nat → Int32))
  | 0, _, _ => none
  | n + 1, v2, x_aM58 => if iM36 ≤ v2 then (k2 ((v1 + (1 : Int32))) x_aM57 x_aM58) else (if v2 < 0 ∨ 18 ≤ v2.toNatClampNeg then none else (if (aM32 v2.toNatClampNeg) < 0 then (f_M_findTruths_320 N iM14 iM36 aM8 aM9 aM10 aM11 aM13 aM30 aM32 aM34 aM35 aM57 aM58 aM59 aM60 k2 v1 x_aM57 n ((v2 + (1 : Int32))) x_aM58) else (if (((512 : Int32) * (aM34 v2.toNatClampNeg)) + v1) < 0 ∨ 102400 ≤ ((((512 : Int32) * (aM34 v2.toNatClampNeg)) + v1)).toNatClampNeg then none else (if (x_aM57 ((((512 : Int32) * (aM34 v2.toNatClampNeg)) + v1)).toNatClampNeg) = (aM35 v2.toNatClampNeg) then (f_M_findTruths_320 N iM14 iM36 aM8 aM9 aM10 aM11 aM13 aM30 aM32 aM34 aM35 aM57 aM58 aM59 aM60 k2 v1 x_aM57 n ((v2 + (1 : Int32))) x_aM58) else (if v1 < 0 ∨ 512 ≤ v1.toNatClampNeg then none else (f_M_findTruths_320 N iM14 iM36 aM8 aM9 aM10 aM11 aM13 aM30 aM32 aM34 aM35 aM57 aM58 aM59 aM60 k2 v1 x_aM57 n ((v2 + (1 : Int32))) ((upd x_aM58 v1.toNatClampNeg (((x_aM58 v1.toNatClampNeg) ||| ((1 : Int32) <<< (v2 &&& 31))))))))))))
def f_M_findTruths_12 (N : Nat) (iM14 : Int32) (iM36 : Int32) (aM8 : Nat → Int32) (aM9 : Nat → Int32) (aM10 : Nat → Int32) (aM11 : Nat → Int32) (aM13 : Nat → Int32) (aM30 : Nat → Int32) (aM32 : Nat → Int32) (aM34 : Nat → Int32) (aM35 : Nat → Int32) (aM57 : Nat → Int32) (aM58 : Nat → Int32) (aM59 : Nat → Int32) (aM60 : Nat → Int32) (k2 : Int32 → (Nat → Int32) → (Nat → Int32) → Option ((Nat → Int32) × (Nat → Int32) × (Nat → Int32) × (Nat → Int32))) (v1 : Int32) (x_aM58 : Nat → Int32) : Nat → Int32 → (Nat → Int32) → Option ((Nat → Int32) × (Nat → Int32) × (Nat → Int32) × (Nat → Int32))
  | 0, _, _ => none
  | n + 1, v2, x_aM57 => if iM14 ≤ v2 then (if v1 < 0 ∨ 512 ≤ v1.toNatClampNeg then none else (f_M_findTruths_320 N iM14 iM36 aM8 aM9 aM10 aM11 aM13 aM30 aM32 aM34 aM35 aM57 aM58 aM59 aM60 k2 v1 x_aM57 N ((0 : Int32)) ((upd x_aM58 v1.toNatClampNeg ((0 : Int32)))))) else (if v2 < 0 ∨ 400 ≤ v2.toNatClampNeg then none else (if (aM13 v2.toNatClampNeg) < 0 ∨ 400 ≤ ((aM13 v2.toNatClampNeg)).toNatClampNeg then none else (if (aM8 ((aM13 v2.toNatClampNeg)).toNatClampNeg) = (0 : Int32) then (if ((v1 >>> ((aM11 ((aM13 v2.toNatClampNeg)).toNatClampNeg) &&& 31)) &&& (1 : Int32)) = (1 : Int32) then (f_M_findTruths_109 N iM14 iM36 aM8 aM9 aM10 aM11 aM13 aM30 aM32 aM34 aM35 aM57 aM58 aM59 aM60 (f_M_findTruths_12 N iM14 iM36 aM8 aM9 aM10 aM11 aM13 aM30 aM32 aM34 aM35 aM57 aM58 aM59 aM60 k2 v1 x_aM58 n) v1 v2 ((((512 : Int32) * (aM13 v2.toNatClampNeg)) + v1)) ((1 : Int32)) x_aM57 x_aM58) else (f_M_findTruths_109 N iM14 iM36 aM8 aM9 aM10 aM11 aM13 aM30 aM32 aM34 aM35 aM57 aM58 aM59 aM60 (f_M_findTruths_12 N iM14 iM36 aM8 aM9 aM10 aM11 aM13 aM30 aM32 aM34 aM35 aM57 aM58 aM59 aM60 k2 v1 x_aM58 n) v1 v2 ((((512 : Int32) * (aM13 v2.toNatClampNeg)) + v1)) ((0 : Int32)) x_aM57 x_aM58)) else (if (aM8 ((aM13 v2.toNatClampNeg)).toNatClampNeg) = (1 : Int32) then (if (((512 : Int32) * (aM13 v2.toNatClampNeg)) + v1) < 0 ∨ 102400 ≤ ((((512 : Int32) * (aM13 v2.toNatClampNeg)) + v1)).toNatClampNeg then none else (f_M_findTruths_12 N iM14 iM36 aM8 aM9 aM10 aM11 aM13 aM30 aM32 aM34 aM35 aM57 aM58 aM59 aM60 k2 v1 x_aM58 n ((v2 + (1 : Int32))) ((upd x_aM57 ((((512 : Int32) * (aM13 v2.toNatClampNeg)) + v1)).toNatClampNeg (vp_nar .boolean ((1 : Int32))))))) else (if (aM8 ((aM13 v2.toNatClampNeg)).toNatClampNeg) = (2 : Int32) then (if (((512 : Int32) * (aM13 v2.toNatClampNeg)) + v1) < 0 ∨ 102400 ≤ ((((512 : Int32) * (aM13 v2.toNatClampNeg)) + v1)).toNatClampNeg then none else (f_M_findTruths_12 N iM14 iM36 aM8 aM9 aM10 aM11 aM13 aM30 aM32 aM34 aM35 aM57 aM58 aM59 aM60 k2 v1 x_aM58 n ((v2 + (1 : Int32))) ((upd x_aM57 ((((512 : Int32) * (aM13 v2.toNatClampNeg)) + v1)).toNatClampNeg (vp_nar .boolean ((0 : Int32))))))) else (if (aM8 ((aM13 v2.toNatClampNeg)).toNatClampNeg) = (3 : Int32) then (if (((512 : Int32) * (aM10 ((aM13 v2.toNatClampNeg)).toNatClampNeg)) + v1) < 0 ∨ 102400 ≤ ((((512 : Int32) * (aM10 ((aM13 v2.toNatClampNeg)).toNatClampNeg)) + v1)).toNatClampNeg then none else (if (x_aM57 ((((512 : Int32) * (aM10 ((aM13 v2.toNatClampNeg)).toNatClampNeg)) + v1)).toNatClampNeg) = 0 then (f_M_findTruths_194 N iM14 iM36 aM8 aM9 aM10 aM11 aM13 aM30 aM32 aM34 aM35 aM57 aM58 aM59 aM60 (f_M_findTruths_12 N iM14 iM36 aM8 aM9 aM10 aM11 aM13 aM30 aM32 aM34 aM35 aM57 aM58 aM59 aM60 k2 v1 x_aM58 n) v1 v2 ((((512 : Int32) * (aM13 v2.toNatClampNeg)) + v1)) ((1 : Int32)) x_aM57 x_aM58) else (f_M_findTruths_194 N iM14 iM36 aM8 aM9 aM10 aM11 aM13 aM30 aM32 aM34 aM35 aM57 aM58 aM59 aM60 (f_M_findTruths_12 N iM14 iM36 aM8 aM9 aM10 aM11 aM13 aM30 aM32 aM34 aM35 aM57 aM58 aM59 aM60 k2 v1 x_aM58 n) v1 v2 ((((512 : Int32) * (aM13 v2.toNatClampNeg)) + v1)) ((0 : Int32)) x_aM57 x_aM58))) else (if (aM8 ((aM13 v2.toNatClampNeg)).toNatClampNeg) = (4 : Int32) then (if ((v1 >>> ((aM11 ((aM13 v2.toNatClampNeg)).toNatClampNeg) &&& 31)) &&& (1 : Int32)) = (1 : Int32) then (f_M_findTruths_109 N iM14 iM36 aM8 aM9 aM10 aM11 aM13 aM30 aM32 aM34 aM35 aM57 aM58 aM59 aM60 (f_M_findTruths_12 N iM14 iM36 aM8 aM9 aM10 aM11 aM13 aM30 aM32 aM34 aM35 aM57 aM58 aM59 aM60 k2 v1 x_aM58 n) v1 v2 ((((512 : Int32) * (aM13 v2.toNatClampNeg)) + v1)) ((1 : Int32)) x_aM57 x_aM58) else (f_M_findTruths_109 N iM14 iM36 aM8 aM9 aM10 aM11 aM13 aM30 aM32 aM34 aM35 aM57 aM58 aM59 aM60 (f_M_findTruths_12 N iM14 iM36 aM8 aM9 aM10 aM11 aM13 aM30 aM32 aM34 aM35 aM57 aM58 aM59 aM60 k2 v1 x_aM58 n) v1 v2 ((((512 : Int32) * (aM13 v2.toNatClampNeg)) + v1)) ((0 : Int32)) x_aM57 x_aM58)) else (if (aM8 ((aM13 v2.toNatClampNeg)).toNatClampNeg) = (5 : Int32) then (if ((v1 >>> ((aM11 ((aM13 v2.toNatClampNeg)).toNatClampNeg) &&& 31)) &&& (1 : Int32)) = 0 then (f_M_findTruths_137 N iM14 iM36 aM8 aM9 aM10 aM11 aM13 aM30 aM32 aM34 aM35 aM57 aM58 aM59 aM60 (f_M_findTruths_12 N iM14 iM36 aM8 aM9 aM10 aM11 aM13 aM30 aM32 aM34 aM35 aM57 aM58 aM59 aM60 k2 v1 x_aM58 n) v1 v2 ((((512 : Int32) * (aM13 v2.toNatClampNeg)) + v1)) ((1 : Int32)) x_aM57 x_aM58) else (f_M_findTruths_137 N iM14 iM36 aM8 aM9 aM10 aM11 aM13 aM30 aM32 aM34 aM35 aM57 aM58 aM59 aM60 (f_M_findTruths_12 N iM14 iM36 aM8 aM9 aM10 aM11 aM13 aM30 aM32 aM34 aM35 aM57 aM58 aM59 aM60 k2 v1 x_aM58 n) v1 v2 ((((512 : Int32) * (aM13 v2.toNatClampNeg)) + v1)) ((0 : Int32)) x_aM57 x_aM58)) else (if (aM8 ((aM13 v2.toNatClampNeg)).toNatClampNeg) = (6 : Int32) then (if (((512 : Int32) * (aM9 ((aM13 v2.toNatClampNeg)).toNatClampNeg)) + v1) < 0 ∨ 102400 ≤ ((((512 : Int32) * (aM9 ((aM13 v2.toNatClampNeg)).toNatClampNeg)) + v1)).toNatClampNeg then none else (if (x_aM57 ((((512 : Int32) * (aM9 ((aM13 v2.toNatClampNeg)).toNatClampNeg)) + v1)).toNatClampNeg) = 0 then (f_M_findTruths_249 N iM14 iM36 aM8 aM9 aM10 aM11 aM13 aM30 aM32 aM34 aM35 aM57 aM58 aM59 aM60 (f_M_findTruths_12 N iM14 iM36 aM8 aM9 aM10 aM11 aM13 aM30 aM32 aM34 aM35 aM57 aM58 aM59 aM60 k2 v1 x_aM58 n) v1 v2 ((((512 : Int32) * (aM13 v2.toNatClampNeg)) + v1)) ((0 : Int32)) x_aM57 x_aM58) else (if (((512 : Int32) * (aM10 ((aM13 v2.toNatClampNeg)).toNatClampNeg)) + v1) < 0 ∨ 102400 ≤ ((((512 : Int32) * (aM10 ((aM13 v2.toNatClampNeg)).toNatClampNeg)) + v1)).toNatClampNeg then none else (if (x_aM57 ((((512 : Int32) * (aM10 ((aM13 v2.toNatClampNeg)).toNatClampNeg)) + v1)).toNatClampNeg) = 0 then (f_M_findTruths_249 N iM14 iM36 aM8 aM9 aM10 aM11 aM13 aM30 aM32 aM34 aM35 aM57 aM58 aM59 aM60 (f_M_findTruths_12 N iM14 iM36 aM8 aM9 aM10 aM11 aM13 aM30 aM32 aM34 aM35 aM57 aM58 aM59 aM60 k2 v1 x_aM58 n) v1 v2 ((((512 : Int32) * (aM13 v2.toNatClampNeg)) + v1)) ((0 : Int32)) x_aM57 x_aM58) else (f_M_findTruths_249 N iM14 iM36 aM8 aM9 aM10 aM11 aM13 aM30 aM32 aM34 aM35 aM57 aM58 aM59 aM60 (f_M_findTruths_12 N iM14 iM36 aM8 aM9 aM10 aM11 aM13 aM30 aM32 aM34 aM35 aM57 aM58 aM59 aM60 k2 v1 x_aM58 n) v1 v2 ((((512 : Int32) * (aM13 v2.toNatClampNeg)) + v1)) ((1 : Int32)) x_aM57 x_aM58))))) else (if (((512 : Int32) * (aM9 ((aM13 v2.toNatClampNeg)).toNatClampNeg)) + v1) < 0 ∨ 102400 ≤ ((((512 : Int32) * (aM9 ((aM13 v2.toNatClampNeg)).toNatClampNeg)) + v1)).toNatClampNeg then none else (if (x_aM57 ((((512 : Int32) * (aM9 ((aM13 v2.toNatClampNeg)).toNatClampNeg)) + v1)).toNatClampNeg) = 0 then (if (((512 : Int32) * (aM10 ((aM13 v2.toNatClampNeg)).toNatClampNeg)) + v1) < 0 ∨ 102400 ≤ ((((512 : Int32) * (aM10 ((aM13 v2.toNatClampNeg)).toNatClampNeg)) + v1)).toNatClampNeg then none else (if (x_aM57 ((((512 : Int32) * (aM10 ((aM13 v2.toNatClampNeg)).toNatClampNeg)) + v1)).toNatClampNeg) = 0 then (f_M_findTruths_304 N iM14 iM36 aM8 aM9 aM10 aM11 aM13 aM30 aM32 aM34 aM35 aM57 aM58 aM59 aM60 (f_M_findTruths_12 N iM14 iM36 aM8 aM9 aM10 aM11 aM13 aM30 aM32 aM34 aM35 aM57 aM58 aM59 aM60 k2 v1 x_aM58 n) v1 v2 ((((512 : Int32) * (aM13 v2.toNatClampNeg)) + v1)) ((0 : Int32)) x_aM57 x_aM58) else (f_M_findTruths_304 N iM14 iM36 aM8 aM9 aM10 aM11 aM13 aM30 aM32 aM34 aM35 aM57 aM58 aM59 aM60 (f_M_findTruths_12 N iM14 iM36 aM8 aM9 aM10 aM11 aM13 aM30 aM32 aM34 aM35 aM57 aM58 aM59 aM60 k2 v1 x_aM58 n) v1 v2 ((((512 : Int32) * (aM13 v2.toNatClampNeg)) + v1)) ((1 : Int32)) x_aM57 x_aM58))) else (f_M_findTruths_304 N iM14 iM36 aM8 aM9 aM10 aM11 aM13 aM30 aM32 aM34 aM35 aM57 aM58 aM59 aM60 (f_M_findTruths_12 N iM14 iM36 aM8 aM9 aM10 aM11 aM13 aM30 aM32 aM34 aM35 aM57 aM58 aM59 aM60 k2 v1 x_aM58 n) v1 v2 ((((512 : Int32) * (aM13 v2.toNatClampNeg)) + v1)) ((1 : Int32)) x_aM57 x_aM58))))))))))))
def f_M_findTruths_474 (N : Nat) (iM14 : Int32) (iM36 : Int32) (aM8 : Nat → Int32) (aM9 : Nat → Int32) (aM10 : Nat → Int32) (aM11 : Nat → Int32) (aM13 : Nat → Int32) (aM30 : Nat → Int32) (aM32 : Nat → Int32) (aM34 : Nat → Int32) (aM35 : Nat → Int32) (aM57 : Nat → Int32) (aM58 : Nat → Int32) (aM59 : Nat → Int32) (aM60 : Nat → Int32) (k410 : Int32 → (Nat → Int32) → (Nat → Int32) → Option ((Nat → Int32) × (Nat → Int32) × (Nat → Int32) × (Nat → Int32))) (v1 : Int32) (v2 : Int32) (s1 : Int32) (s2 : Int32) (s3 : Int32) (x_aM57 : Nat → Int32) (x_aM58 : Nat → Int32) (x_aM59 : Nat → Int32) (x_aM60 : Nat → Int32) : Option ((Nat → Int32) × (Nat → Int32) × (Nat → Int32) × (Nat → Int32)) := if s1 < 0 ∨ 3 ≤ s1.toNatClampNeg then none else (k410 ((v2 + (1 : Int32))) x_aM59 ((upd x_aM60 s1.toNatClampNeg ((s2 ||| s3)))))
def f_M_findTruths_455 (N : Nat) (iM14 : Int32) (iM36 : Int32) (aM8 : Nat → Int32) (aM9 : Nat → Int32) (aM10 : Nat → Int32) (aM11 : Nat → Int32) (aM13 : Nat → Int32) (aM30 : Nat → Int32) (aM32 : Nat → Int32) (aM34 : Nat → Int32) (aM35 : Nat → Int32) (aM57 : Nat → Int32) (aM58 : Nat → Int32) (aM59 : Nat → Int32) (aM60 : Nat → Int32) (k410 : Int32 → (Nat → Int32) → (Nat → Int32) → Option ((Nat → Int32) × (Nat → Int32) × (Nat → Int32) × (Nat → Int32))) (v1 : Int32) (v2 : Int32) (v3 : Int32) (x_aM57 : Nat → Int32) (x_aM58 : Nat → Int32) (x_aM59 : Nat → Int32) (x_aM60 : Nat → Int32) : Option ((Nat → Int32) × (Nat → Int32) × (Nat → Int32) × (Nat → Int32)) := if v1 < 0 ∨ 3 ≤ v1.toNatClampNeg then none else (if v3 = v1 then (f_M_findTruths_474 N iM14 iM36 aM8 aM9 aM10 aM11 aM13 aM30 aM32 aM34 aM35 aM57 aM58 aM59 aM60 k410 v1 v2 v1 ((x_aM60 v1.toNatClampNeg)) (((1 : Int32) <<< (v2 &&& 31))) x_aM57 x_aM58 x_aM59 x_aM60) else (f_M_findTruths_474 N iM14 iM36 aM8 aM9 aM10 aM11 aM13 aM30 aM32 aM34 aM35 aM57 aM58 aM59 aM60 k410 v1 v2 v1 ((x_aM60 v1.toNatClampNeg)) ((0 : Int32)) x_aM57 x_aM58 x_aM59 x_aM60))
def f_M_findTruths_443 (N : Nat) (iM14 : Int32) (iM36 : Int32) (aM8 : Nat → Int32) (aM9 : Nat → Int32) (aM10 : Nat → Int32) (aM11 : Nat → Int32) (aM13 : Nat → Int32) (aM30 : Nat → Int32) (aM32 : Nat → Int32) (aM34 : Nat → Int32) (aM35 : Nat → Int32) (aM57 : Nat → Int32) (aM58 : Nat → Int32) (aM59 : Nat → Int32) (aM60 : Nat → Int32) (k410 : Int32 → (Nat → Int32) → (Nat → Int32) → Option ((Nat → Int32) × (Nat → Int32) × (Nat → Int32) × (Nat → Int32))) (v1 : Int32) (v2 : Int32) (v3 : Int32) (x_aM57 : Nat → Int32) (x_aM58 : Nat → Int32) (x_aM59 : Nat → Int32) (x_aM60 : Nat → Int32) : Option ((Nat → Int32) × (Nat → Int32) × (Nat → Int32) × (Nat → Int32)) := if v1 < 0 ∨ 3 ≤ v1.toNatClampNeg then none else (f_M_findTruths_455 N iM14 iM36 aM8 aM9 aM10 aM11 aM13 aM30 aM32 aM34 aM35 aM57 aM58 aM59 aM60 k410 v1 v2 v3 x_aM57 x_aM58 ((upd x_aM59 v1.toNatClampNeg (((x_aM59 v1.toNatClampNeg) ||| ((1 : Int32) <<< (v2 &&& 31)))))) x_aM60)
def f_M_findTruths_410 (N : Nat) (iM14 : Int32) (iM36 : Int32) (aM8 : Nat → Int32) (aM9 : Nat → Int32) (aM10 : Nat → Int32) (aM11 : Nat → Int32) (aM13 : Nat → Int32) (aM30 : Nat → Int32) (aM32 : Nat → Int32) (aM34 : Nat → Int32) (aM35 : Nat → Int32) (aM57 : Nat → Int32) (aM58 : Nat → Int32) (aM59 : Nat → Int32) (aM60 : Nat → Int32) (k389 : Int32 → (Nat → Int32) → (Nat → Int32) → Option ((Nat → Int32) × (Nat → Int32) × (Nat → Int32) × (Nat → Int32))) (v1 : Int32) (x_aM57 : Nat → Int32) (x_aM58 : Nat → Int32) : Nat → Int32 → (Nat → Int32) → (Nat → Int32) → Option ((Nat → Int32) × (Nat → Int32) × (Nat → Int32) × (Nat → Int32))
  | 0, _, _, _ => none
  | n + 1, v2, x_aM59, x_aM60 => if iM36 ≤ v2 then (k389 ((v1 + (1 : Int32))) x_aM59 x_aM60) else (if v2 < 0 ∨ 18 ≤ v2.toNatClampNeg then none else (if (aM32 v2.toNatClampNeg) < 0 then (f_M_findTruths_455 N iM14 iM36 aM8 aM9 aM10 aM11 aM13 aM30 aM32 aM34 aM35 aM57 aM58 aM59 aM60 (f_M_findTruths_410 N iM14 iM36 aM8 aM9 aM10 aM11 aM13 aM30 aM32 aM34 aM35 aM57 aM58 aM59 aM60 k389 v1 x_aM57 x_aM58 n) v1 v2 ((aM32 v2.toNatClampNeg)) x_aM57 x_aM58 x_aM59 x_aM60) else (if (aM32 v2.toNatClampNeg) = v1 then (f_M_findTruths_443 N iM14 iM36 aM8 aM9 aM10 aM11 aM13 aM30 aM32 aM34 aM35 aM57 aM58 aM59 aM60 (f_M_findTruths_410 N iM14 iM36 aM8 aM9 aM10 aM11 aM13 aM30 aM32 aM34 aM35 aM57 aM58 aM59 aM60 k389 v1 x_aM57 x_aM58 n) v1 v2 ((aM32 v2.toNatClampNeg)) x_aM57 x_aM58 x_aM59 x_aM60) else ((f_M_isBelow N v1 ((aM32 v2.toNatClampNeg)) aM30).bind fun q437 => (if q437 = 0 then (f_M_findTruths_455 N iM14 iM36 aM8 aM9 aM10 aM11 aM13 aM30 aM32 aM34 aM35 aM57 aM58 aM59 aM60 (f_M_findTruths_410 N iM14 iM36 aM8 aM9 aM10 aM11 aM13 aM30 aM32 aM34 aM35 aM57 aM58 aM59 aM60 k389 v1 x_aM57 x_aM58 n) v1 v2 ((aM32 v2.toNatClampNeg)) x_aM57 x_aM58 x_aM59 x_aM60) else (f_M_findTruths_443 N iM14 iM36 aM8 aM9 aM10 aM11 aM13 aM30 aM32 aM34 aM35 aM57 aM58 aM59 aM60 (f_M_findTruths_410 N iM14 iM36 aM8 aM9 aM10 aM11 aM13 aM30 aM32 aM34 aM35 aM57 aM58 aM59 aM60 k389 v1 x_aM57 x_aM58 n) v1 v2 ((aM32 v2.toNatClampNeg)) x_aM57 x_aM58 x_aM59 x_aM60))))))
def f_M_findTruths_389 (N : Nat) (iM14 : Int32) (iM36 : Int32) (aM8 : Nat → Int32) (aM9 : Nat → Int32) (aM10 : Nat → Int32) (aM11 : Nat → Int32) (aM13 : Nat → Int32) (aM30 : Nat → Int32) (aM32 : Nat → Int32) (aM34 : Nat → Int32) (aM35 : Nat → Int32) (aM57 : Nat → Int32) (aM58 : Nat → Int32) (aM59 : Nat → Int32) (aM60 : Nat → Int32) (x_aM57 : Nat → Int32) (x_aM58 : Nat → Int32) : Nat → Int32 → (Nat → Int32) → (Nat → Int32) → Option ((Nat → Int32) × (Nat → Int32) × (Nat → Int32) × (Nat → Int32))
  | 0, _, _, _ => none
  | n + 1, v1, x_aM59, x_aM60 => if (3 : Int32) ≤ v1 then (some (x_aM57, x_aM58, x_aM59, x_aM60)) else (if v1 < 0 ∨ 3 ≤ v1.toNatClampNeg then none else (f_M_findTruths_410 N iM14 iM36 aM8 aM9 aM10 aM11 aM13 aM30 aM32 aM34 aM35 aM57 aM58 aM59 aM60 (f_M_findTruths_389 N iM14 iM36 aM8 aM9 aM10 aM11 aM13 aM30 aM32 aM34 aM35 aM57 aM58 aM59 aM60 x_aM57 x_aM58 n) v1 x_aM57 x_aM58 N ((0 : Int32)) ((upd x_aM59 v1.toNatClampNeg ((0 : Int32)))) ((upd x_aM60 v1.toNatClampNeg ((0 : Int32))))))
def f_M_findTruths_2 (N : Nat) (iM14 : Int32) (iM36 : Int32) (aM8 : Nat → Int32) (aM9 : Nat → Int32) (aM10 : Nat → Int32) (aM11 : Nat → Int32) (aM13 : Nat → Int32) (aM30 : Nat → Int32) (aM32 : Nat → Int32) (aM34 : Nat → Int32) (aM35 : Nat → Int32) (aM57 : Nat → Int32) (aM58 : Nat → Int32) (aM59 : Nat → Int32) (aM60 : Nat → Int32)  : Nat → Int32 → (Nat → Int32) → (Nat → Int32) → Option ((Nat → Int32) × (Nat → Int32) × (Nat → Int32) × (Nat → Int32))
  | 0, _, _, _ => none
  | n + 1, v1, x_aM57, x_aM58 => (f_M_types iM36).bind fun q4 => (if q4 ≤ v1 then (f_M_findTruths_389 N iM14 iM36 aM8 aM9 aM10 aM11 aM13 aM30 aM32 aM34 aM35 aM57 aM58 aM59 aM60 x_aM57 x_aM58 N ((0 : Int32)) aM59 aM60) else (f_M_findTruths_12 N iM14 iM36 aM8 aM9 aM10 aM11 aM13 aM30 aM32 aM34 aM35 aM57 aM58 aM59 aM60 (f_M_findTruths_2 N iM14 iM36 aM8 aM9 aM10 aM11 aM13 aM30 aM32 aM34 aM35 aM57 aM58 aM59 aM60 n) v1 x_aM58 N ((0 : Int32)) x_aM57))
def f_M_findTruths (N : Nat) (iM14 : Int32) (iM36 : Int32) (aM8 : Nat → Int32) (aM9 : Nat → Int32) (aM10 : Nat → Int32) (aM11 : Nat → Int32) (aM13 : Nat → Int32) (aM30 : Nat → Int32) (aM32 : Nat → Int32) (aM34 : Nat → Int32) (aM35 : Nat → Int32) (aM57 : Nat → Int32) (aM58 : Nat → Int32) (aM59 : Nat → Int32) (aM60 : Nat → Int32) : Option ((Nat → Int32) × (Nat → Int32) × (Nat → Int32) × (Nat → Int32)) := f_M_findTruths_2 N iM14 iM36 aM8 aM9 aM10 aM11 aM13 aM30 aM32 aM34 aM35 aM57 aM58 aM59 aM60 N ((0 : Int32)) aM57 aM58
set_option maxHeartbeats 8000000 in
set_option maxRecDepth 100000 in
theorem c_M_findTruths (l : Launch) (dC : Nat → ClassId) (dI : Nat → Nat → Nat) (cy : Nat → ClassId) (ad : Nat → Nat) (sz : Nat) (N : Nat) (iM : Nat → Int32) (aM : Nat → Nat → Int32) (q : (Nat → Int32) × (Nat → Int32) × (Nat → Int32) × (Nat → Int32)) (h : f_M_findTruths N (iM 14) (iM 36) (aM 8) (aM 9) (aM 10) (aM 11) (aM 13) (aM 30) (aM 32) (aM 34) (aM 35) (aM 57) (aM 58) (aM 59) (aM 60) = some q) : Met l yX8_findTruths wsX8_findTruths ({ frames := 1, cells := 0, slots := 0, locals := 24 } : Room) (cP (dC, dI) cy [.ref (ad 0)] (zzM ad cy iM aM) sz) (cQv (dC, dI) cy (zzM ad cy iM (us aM [(57, q.1), (58, q.2.1), (59, q.2.2.1), (60, q.2.2.2)])) (va_A (zzM ad cy iM aM) sz)) 0 0 (va_A (zzM ad cy iM aM) sz) := by
  refine Met.ofW (cc := cX8_findTruths) (maxL := 5) (ret := none) (by decide) rfl ?_
  intro p e s m args below meth c s₁ B hml hv
  obtain ⟨hav, hsz, hP, hK, hD0, hN⟩ := hv
  have hx := B.exec
  have hb := B.bytes
  have hr := B.returns
  have hts := atoms_spec (ws := wsX8_findTruths) B.pre
  have hown : s.vm.findClass RX8 = some m.cls := findClass_of_methodNamed B.named
  have hlocks := B.notSynchronized
  subst hsz
  have hD := hD0.self (sz := s.heap.size)
  generalize hAe : va_A (zzM ad cy iM aM) s.heap.size = A at hD ⊢
  have hA : ∀ q : Nat, s.heap.size ≤ q → A q := fun q h => by rw [← hAe]; exact Or.inr h
  have hS : va_S A s.heap s.heap [] := va_S.rf
  generalize hWQ : (zzM ad cy iM (us aM [(57, q.1), (58, q.2.1), (59, q.2.2.1), (60, q.2.2.2)])) = WQ
  generalize hQQ : MQ below (cQv (dC, dI) cy WQ A) args s 0 0 A = QQ
  have hl := lv_entry ([.ref (ad 0)] : List Value) (n := 5) (Nat.le_of_ble_eq_true rfl)
  have hfr := lg_entry_eq m ([.ref (ad 0)] : List Value) 5
  rw [← hav] at hfr
  rw [hfr]
  clear hfr hav
  generalize (lg_sl ([.ref (ad 0)] : List Value) ++ List.replicate (5 - (lg_sl ([.ref (ad 0)] : List Value)).length) Slot.unset).toArray = ls at hl ⊢
  have hl : lv_has ls 5 [(0, .ref (ad 0))] := hl
  have kf353 := hts _ (List.mem_cons_of_mem _ m_fl_X8_353)
  have ki8 := (fun w h => List.mem_cons_of_mem _ (i_X8 w h) : ∀ w ∈ u_ws RX8 TX8 78, w ∈ wsX8_findTruths)
  have kf73 := hts _ (List.mem_cons_of_mem _ m_fl_X8_73)
  have kf102 := hts _ (List.mem_cons_of_mem _ m_fl_X8_102)
  have kf79 := hts _ (List.mem_cons_of_mem _ m_fl_X8_79)
  have kf82 := hts _ (List.mem_cons_of_mem _ m_fl_X8_82)
  have kf105 := hts _ (List.mem_cons_of_mem _ m_fl_X8_105)
  have kf332 := hts _ (List.mem_cons_of_mem _ m_fl_X8_332)
  have kf33 := hts _ (List.mem_cons_of_mem _ m_fl_X8_33)
  have kf17 := hts _ (List.mem_cons_of_mem _ m_fl_X8_17)
  have kf27 := hts _ (List.mem_cons_of_mem _ m_fl_X8_27)
  have kf24 := hts _ (List.mem_cons_of_mem _ m_fl_X8_24)
  have kf21 := hts _ (List.mem_cons_of_mem _ m_fl_X8_21)
  have kf111 := hts _ (List.mem_cons_of_mem _ m_fl_X8_111)
  have kf108 := hts _ (List.mem_cons_of_mem _ m_fl_X8_108)
  refine (?_ : ∀ (H : Heap) (locs : List Loc), va_P (dC, dI) vwCl (zzM ad cy iM aM) H → va_D A (zzM ad cy iM aM) → va_S A s.heap H locs → W p l e ({ frames := 1, cells := 0, slots := 0, locals := 24 } : Room) s m args below meth c H locs 0 0 QQ (F0 m 0 ls [])) s.heap [] hP hD hS
  clear hP hD hS
  have B109 : ∀ (v1 : Int32) (v2 : Int32) (s1 : Int32) (s2 : Int32) (x_aM57 : Nat → Int32) (x_aM58 : Nat → Int32) (k12 : Int32 → (Nat → Int32) → Option ((Nat → Int32) × (Nat → Int32) × (Nat → Int32) × (Nat → Int32))) (hk12 : ∀ (v2' : Int32) (x_aM57' : Nat → Int32) (H : Heap) (locs : List Loc) (ls : Array Slot), k12 v2' x_aM57' = some q → va_P (dC, dI) vwCl (zzM ad cy iM (us aM [(57, x_aM57'), (58, x_aM58)])) H → va_D A (zzM ad cy iM (us aM [(57, x_aM57'), (58, x_aM58)])) → va_S A s.heap H locs → lv_has ls 5 [(0, .ref (ad 0)), (1, .int v1), (2, .int v2')] → W p l e ({ frames := 1, cells := 0, slots := 0, locals := 24 } : Room) s m args below meth c H locs 0 0 QQ (F0 m 12 ls [])) (H : Heap) (locs : List Loc) (ls : Array Slot), f_M_findTruths_109 N (iM 14) (iM 36) (aM 8) (aM 9) (aM 10) (aM 11) (aM 13) (aM 30) (aM 32) (aM 34) (aM 35) (aM 57) (aM 58) (aM 59) (aM 60) k12 v1 v2 s1 s2 x_aM57 x_aM58 = some q → va_P (dC, dI) vwCl (zzM ad cy iM (us aM [(57, x_aM57), (58, x_aM58)])) H → va_D A (zzM ad cy iM (us aM [(57, x_aM57), (58, x_aM58)])) → va_S A s.heap H locs → lv_has ls 5 [(0, .ref (ad 0)), (1, .int v1), (2, .int v2)] → W p l e ({ frames := 1, cells := 0, slots := 0, locals := 24 } : Room) s m args below meth c H locs 0 0 QQ (F0 m 109 ls [.int s2, .int s1, .ref (ad 29)]) := by
    intro v1 v2 s1 s2 x_aM57 x_aM58 k12 hk12 H locs ls h hP hD hS hl
    unfold f_M_findTruths_109 at h
    obtain ⟨g_98, h⟩ := g_n h
    refine va_zast (f := x_aM57) hx hb hK hP hD hS 29 4 rfl rfl g_98 dX8_findTruths_109 (fun H locs hP hD hS => ?_)
    have hP : va_P (dC, dI) vwCl (zzM ad cy iM (us aM [(57, (upd x_aM57 s1.toNatClampNeg (vp_nar .boolean s2))), (58, x_aM58)])) H := Eq.mp (congrArg (fun w => va_P (dC, dI) vwCl w H) (stM_aM57 ad cy iM aM [(57, x_aM57), (58, x_aM58)] ((upd x_aM57 s1.toNatClampNeg (vp_nar .boolean s2))))) hP
    have hD : va_D A (zzM ad cy iM (us aM [(57, (upd x_aM57 s1.toNatClampNeg (vp_nar .boolean s2))), (58, x_aM58)])) := Eq.mp (congrArg (fun w => va_D A w) (stM_aM57 ad cy iM aM [(57, x_aM57), (58, x_aM58)] ((upd x_aM57 s1.toNatClampNeg (vp_nar .boolean s2))))) hD
    refine lv_goto (tgt := 305) hx hb dX8_findTruths_110 (by decide) ?_
    refine lv_iinc (v := (v2 + (1 : Int32))) (lv' := [(2, .int ((v2 + (1 : Int32)))), (0, .ref (ad 0)), (1, .int v1)]) hx hb dX8_findTruths_305 hl (k := 2) rfl rfl (by decide) rfl (fun ls hl => ?_)
    refine lv_goto (tgt := 12) hx hb dX8_findTruths_308 (by decide) ?_
    exact hk12 ((v2 + (1 : Int32))) ((upd x_aM57 s1.toNatClampNeg (vp_nar .boolean s2))) H locs ls h hP hD hS (lv_sub hl [1, 2, 0] rfl)
  have B137 : ∀ (v1 : Int32) (v2 : Int32) (s1 : Int32) (s2 : Int32) (x_aM57 : Nat → Int32) (x_aM58 : Nat → Int32) (k12 : Int32 → (Nat → Int32) → Option ((Nat → Int32) × (Nat → Int32) × (Nat → Int32) × (Nat → Int32))) (hk12 : ∀ (v2' : Int32) (x_aM57' : Nat → Int32) (H : Heap) (locs : List Loc) (ls : Array Slot), k12 v2' x_aM57' = some q → va_P (dC, dI) vwCl (zzM ad cy iM (us aM [(57, x_aM57'), (58, x_aM58)])) H → va_D A (zzM ad cy iM (us aM [(57, x_aM57'), (58, x_aM58)])) → va_S A s.heap H locs → lv_has ls 5 [(0, .ref (ad 0)), (1, .int v1), (2, .int v2')] → W p l e ({ frames := 1, cells := 0, slots := 0, locals := 24 } : Room) s m args below meth c H locs 0 0 QQ (F0 m 12 ls [])) (H : Heap) (locs : List Loc) (ls : Array Slot), f_M_findTruths_137 N (iM 14) (iM 36) (aM 8) (aM 9) (aM 10) (aM 11) (aM 13) (aM 30) (aM 32) (aM 34) (aM 35) (aM 57) (aM 58) (aM 59) (aM 60) k12 v1 v2 s1 s2 x_aM57 x_aM58 = some q → va_P (dC, dI) vwCl (zzM ad cy iM (us aM [(57, x_aM57), (58, x_aM58)])) H → va_D A (zzM ad cy iM (us aM [(57, x_aM57), (58, x_aM58)])) → va_S A s.heap H locs → lv_has ls 5 [(0, .ref (ad 0)), (1, .int v1), (2, .int v2)] → W p l e ({ frames := 1, cells := 0, slots := 0, locals := 24 } : Room) s m args below meth c H locs 0 0 QQ (F0 m 137 ls [.int s2, .int s1, .ref (ad 29)]) := by
    intro v1 v2 s1 s2 x_aM57 x_aM58 k12 hk12 H locs ls h hP hD hS hl
    unfold f_M_findTruths_137 at h
    obtain ⟨g_98, h⟩ := g_n h
    refine va_zast (f := x_aM57) hx hb hK hP hD hS 29 4 rfl rfl g_98 dX8_findTruths_137 (fun H locs hP hD hS => ?_)
    have hP : va_P (dC, dI) vwCl (zzM ad cy iM (us aM [(57, (upd x_aM57 s1.toNatClampNeg (vp_nar .boolean s2))), (58, x_aM58)])) H := Eq.mp (congrArg (fun w => va_P (dC, dI) vwCl w H) (stM_aM57 ad cy iM aM [(57, x_aM57), (58, x_aM58)] ((upd x_aM57 s1.toNatClampNeg (vp_nar .boolean s2))))) hP
    have hD : va_D A (zzM ad cy iM (us aM [(57, (upd x_aM57 s1.toNatClampNeg (vp_nar .boolean s2))), (58, x_aM58)])) := Eq.mp (congrArg (fun w => va_D A w) (stM_aM57 ad cy iM aM [(57, x_aM57), (58, x_aM58)] ((upd x_aM57 s1.toNatClampNeg (vp_nar .boolean s2))))) hD
    refine lv_goto (tgt := 305) hx hb dX8_findTruths_138 (by decide) ?_
    refine lv_iinc (v := (v2 + (1 : Int32))) (lv' := [(2, .int ((v2 + (1 : Int32)))), (0, .ref (ad 0)), (1, .int v1)]) hx hb dX8_findTruths_305 hl (k := 2) rfl rfl (by decide) rfl (fun ls hl => ?_)
    refine lv_goto (tgt := 12) hx hb dX8_findTruths_308 (by decide) ?_
    exact hk12 ((v2 + (1 : Int32))) ((upd x_aM57 s1.toNatClampNeg (vp_nar .boolean s2))) H locs ls h hP hD hS (lv_sub hl [1, 2, 0] rfl)
  have B194 : ∀ (v1 : Int32) (v2 : Int32) (s1 : Int32) (s2 : Int32) (x_aM57 : Nat → Int32) (x_aM58 : Nat → Int32) (k12 : Int32 → (Nat → Int32) → Option ((Nat → Int32) × (Nat → Int32) × (Nat → Int32) × (Nat → Int32))) (hk12 : ∀ (v2' : Int32) (x_aM57' : Nat → Int32) (H : Heap) (locs : List Loc) (ls : Array Slot), k12 v2' x_aM57' = some q → va_P (dC, dI) vwCl (zzM ad cy iM (us aM [(57, x_aM57'), (58, x_aM58)])) H → va_D A (zzM ad cy iM (us aM [(57, x_aM57'), (58, x_aM58)])) → va_S A s.heap H locs → lv_has ls 5 [(0, .ref (ad 0)), (1, .int v1), (2, .int v2')] → W p l e ({ frames := 1, cells := 0, slots := 0, locals := 24 } : Room) s m args below meth c H locs 0 0 QQ (F0 m 12 ls [])) (H : Heap) (locs : List Loc) (ls : Array Slot), f_M_findTruths_194 N (iM 14) (iM 36) (aM 8) (aM 9) (aM 10) (aM 11) (aM 13) (aM 30) (aM 32) (aM 34) (aM 35) (aM 57) (aM 58) (aM 59) (aM 60) k12 v1 v2 s1 s2 x_aM57 x_aM58 = some q → va_P (dC, dI) vwCl (zzM ad cy iM (us aM [(57, x_aM57), (58, x_aM58)])) H → va_D A (zzM ad cy iM (us aM [(57, x_aM57), (58, x_aM58)])) → va_S A s.heap H locs → lv_has ls 5 [(0, .ref (ad 0)), (1, .int v1), (2, .int v2)] → W p l e ({ frames := 1, cells := 0, slots := 0, locals := 24 } : Room) s m args below meth c H locs 0 0 QQ (F0 m 194 ls [.int s2, .int s1, .ref (ad 29)]) := by
    intro v1 v2 s1 s2 x_aM57 x_aM58 k12 hk12 H locs ls h hP hD hS hl
    unfold f_M_findTruths_194 at h
    obtain ⟨g_98, h⟩ := g_n h
    refine va_zast (f := x_aM57) hx hb hK hP hD hS 29 4 rfl rfl g_98 dX8_findTruths_194 (fun H locs hP hD hS => ?_)
    have hP : va_P (dC, dI) vwCl (zzM ad cy iM (us aM [(57, (upd x_aM57 s1.toNatClampNeg (vp_nar .boolean s2))), (58, x_aM58)])) H := Eq.mp (congrArg (fun w => va_P (dC, dI) vwCl w H) (stM_aM57 ad cy iM aM [(57, x_aM57), (58, x_aM58)] ((upd x_aM57 s1.toNatClampNeg (vp_nar .boolean s2))))) hP
    have hD : va_D A (zzM ad cy iM (us aM [(57, (upd x_aM57 s1.toNatClampNeg (vp_nar .boolean s2))), (58, x_aM58)])) := Eq.mp (congrArg (fun w => va_D A w) (stM_aM57 ad cy iM aM [(57, x_aM57), (58, x_aM58)] ((upd x_aM57 s1.toNatClampNeg (vp_nar .boolean s2))))) hD
    refine lv_goto (tgt := 305) hx hb dX8_findTruths_195 (by decide) ?_
    refine lv_iinc (v := (v2 + (1 : Int32))) (lv' := [(2, .int ((v2 + (1 : Int32)))), (0, .ref (ad 0)), (1, .int v1)]) hx hb dX8_findTruths_305 hl (k := 2) rfl rfl (by decide) rfl (fun ls hl => ?_)
    refine lv_goto (tgt := 12) hx hb dX8_findTruths_308 (by decide) ?_
    exact hk12 ((v2 + (1 : Int32))) ((upd x_aM57 s1.toNatClampNeg (vp_nar .boolean s2))) H locs ls h hP hD hS (lv_sub hl [1, 2, 0] rfl)
  have B249 : ∀ (v1 : Int32) (v2 : Int32) (s1 : Int32) (s2 : Int32) (x_aM57 : Nat → Int32) (x_aM58 : Nat → Int32) (k12 : Int32 → (Nat → Int32) → Option ((Nat → Int32) × (Nat → Int32) × (Nat → Int32) × (Nat → Int32))) (hk12 : ∀ (v2' : Int32) (x_aM57' : Nat → Int32) (H : Heap) (locs : List Loc) (ls : Array Slot), k12 v2' x_aM57' = some q → va_P (dC, dI) vwCl (zzM ad cy iM (us aM [(57, x_aM57'), (58, x_aM58)])) H → va_D A (zzM ad cy iM (us aM [(57, x_aM57'), (58, x_aM58)])) → va_S A s.heap H locs → lv_has ls 5 [(0, .ref (ad 0)), (1, .int v1), (2, .int v2')] → W p l e ({ frames := 1, cells := 0, slots := 0, locals := 24 } : Room) s m args below meth c H locs 0 0 QQ (F0 m 12 ls [])) (H : Heap) (locs : List Loc) (ls : Array Slot), f_M_findTruths_249 N (iM 14) (iM 36) (aM 8) (aM 9) (aM 10) (aM 11) (aM 13) (aM 30) (aM 32) (aM 34) (aM 35) (aM 57) (aM 58) (aM 59) (aM 60) k12 v1 v2 s1 s2 x_aM57 x_aM58 = some q → va_P (dC, dI) vwCl (zzM ad cy iM (us aM [(57, x_aM57), (58, x_aM58)])) H → va_D A (zzM ad cy iM (us aM [(57, x_aM57), (58, x_aM58)])) → va_S A s.heap H locs → lv_has ls 5 [(0, .ref (ad 0)), (1, .int v1), (2, .int v2)] → W p l e ({ frames := 1, cells := 0, slots := 0, locals := 24 } : Room) s m args below meth c H locs 0 0 QQ (F0 m 249 ls [.int s2, .int s1, .ref (ad 29)]) := by
    intro v1 v2 s1 s2 x_aM57 x_aM58 k12 hk12 H locs ls h hP hD hS hl
    unfold f_M_findTruths_249 at h
    obtain ⟨g_98, h⟩ := g_n h
    refine va_zast (f := x_aM57) hx hb hK hP hD hS 29 4 rfl rfl g_98 dX8_findTruths_249 (fun H locs hP hD hS => ?_)
    have hP : va_P (dC, dI) vwCl (zzM ad cy iM (us aM [(57, (upd x_aM57 s1.toNatClampNeg (vp_nar .boolean s2))), (58, x_aM58)])) H := Eq.mp (congrArg (fun w => va_P (dC, dI) vwCl w H) (stM_aM57 ad cy iM aM [(57, x_aM57), (58, x_aM58)] ((upd x_aM57 s1.toNatClampNeg (vp_nar .boolean s2))))) hP
    have hD : va_D A (zzM ad cy iM (us aM [(57, (upd x_aM57 s1.toNatClampNeg (vp_nar .boolean s2))), (58, x_aM58)])) := Eq.mp (congrArg (fun w => va_D A w) (stM_aM57 ad cy iM aM [(57, x_aM57), (58, x_aM58)] ((upd x_aM57 s1.toNatClampNeg (vp_nar .boolean s2))))) hD
    refine lv_goto (tgt := 305) hx hb dX8_findTruths_250 (by decide) ?_
    refine lv_iinc (v := (v2 + (1 : Int32))) (lv' := [(2, .int ((v2 + (1 : Int32)))), (0, .ref (ad 0)), (1, .int v1)]) hx hb dX8_findTruths_305 hl (k := 2) rfl rfl (by decide) rfl (fun ls hl => ?_)
    refine lv_goto (tgt := 12) hx hb dX8_findTruths_308 (by decide) ?_
    exact hk12 ((v2 + (1 : Int32))) ((upd x_aM57 s1.toNatClampNeg (vp_nar .boolean s2))) H locs ls h hP hD hS (lv_sub hl [1, 2, 0] rfl)
  have B304 : ∀ (v1 : Int32) (v2 : Int32) (s1 : Int32) (s2 : Int32) (x_aM57 : Nat → Int32) (x_aM58 : Nat → Int32) (k12 : Int32 → (Nat → Int32) → Option ((Nat → Int32) × (Nat → Int32) × (Nat → Int32) × (Nat → Int32))) (hk12 : ∀ (v2' : Int32) (x_aM57' : Nat → Int32) (H : Heap) (locs : List Loc) (ls : Array Slot), k12 v2' x_aM57' = some q → va_P (dC, dI) vwCl (zzM ad cy iM (us aM [(57, x_aM57'), (58, x_aM58)])) H → va_D A (zzM ad cy iM (us aM [(57, x_aM57'), (58, x_aM58)])) → va_S A s.heap H locs → lv_has ls 5 [(0, .ref (ad 0)), (1, .int v1), (2, .int v2')] → W p l e ({ frames := 1, cells := 0, slots := 0, locals := 24 } : Room) s m args below meth c H locs 0 0 QQ (F0 m 12 ls [])) (H : Heap) (locs : List Loc) (ls : Array Slot), f_M_findTruths_304 N (iM 14) (iM 36) (aM 8) (aM 9) (aM 10) (aM 11) (aM 13) (aM 30) (aM 32) (aM 34) (aM 35) (aM 57) (aM 58) (aM 59) (aM 60) k12 v1 v2 s1 s2 x_aM57 x_aM58 = some q → va_P (dC, dI) vwCl (zzM ad cy iM (us aM [(57, x_aM57), (58, x_aM58)])) H → va_D A (zzM ad cy iM (us aM [(57, x_aM57), (58, x_aM58)])) → va_S A s.heap H locs → lv_has ls 5 [(0, .ref (ad 0)), (1, .int v1), (2, .int v2)] → W p l e ({ frames := 1, cells := 0, slots := 0, locals := 24 } : Room) s m args below meth c H locs 0 0 QQ (F0 m 304 ls [.int s2, .int s1, .ref (ad 29)]) := by
    intro v1 v2 s1 s2 x_aM57 x_aM58 k12 hk12 H locs ls h hP hD hS hl
    unfold f_M_findTruths_304 at h
    obtain ⟨g_98, h⟩ := g_n h
    refine va_zast (f := x_aM57) hx hb hK hP hD hS 29 4 rfl rfl g_98 dX8_findTruths_304 (fun H locs hP hD hS => ?_)
    have hP : va_P (dC, dI) vwCl (zzM ad cy iM (us aM [(57, (upd x_aM57 s1.toNatClampNeg (vp_nar .boolean s2))), (58, x_aM58)])) H := Eq.mp (congrArg (fun w => va_P (dC, dI) vwCl w H) (stM_aM57 ad cy iM aM [(57, x_aM57), (58, x_aM58)] ((upd x_aM57 s1.toNatClampNeg (vp_nar .boolean s2))))) hP
    have hD : va_D A (zzM ad cy iM (us aM [(57, (upd x_aM57 s1.toNatClampNeg (vp_nar .boolean s2))), (58, x_aM58)])) := Eq.mp (congrArg (fun w => va_D A w) (stM_aM57 ad cy iM aM [(57, x_aM57), (58, x_aM58)] ((upd x_aM57 s1.toNatClampNeg (vp_nar .boolean s2))))) hD
    refine lv_iinc (v := (v2 + (1 : Int32))) (lv' := [(2, .int ((v2 + (1 : Int32)))), (0, .ref (ad 0)), (1, .int v1)]) hx hb dX8_findTruths_305 hl (k := 2) rfl rfl (by decide) rfl (fun ls hl => ?_)
    refine lv_goto (tgt := 12) hx hb dX8_findTruths_308 (by decide) ?_
    exact hk12 ((v2 + (1 : Int32))) ((upd x_aM57 s1.toNatClampNeg (vp_nar .boolean s2))) H locs ls h hP hD hS (lv_sub hl [1, 2, 0] rfl)
  have B320 : ∀ (n : Nat) (v1 : Int32) (x_aM57 : Nat → Int32) (k2 : Int32 → (Nat → Int32) → (Nat → Int32) → Option ((Nat → Int32) × (Nat → Int32) × (Nat → Int32) × (Nat → Int32))) (hk2 : ∀ (v1' : Int32) (x_aM57' : Nat → Int32) (x_aM58' : Nat → Int32) (H : Heap) (locs : List Loc) (ls : Array Slot), k2 v1' x_aM57' x_aM58' = some q → va_P (dC, dI) vwCl (zzM ad cy iM (us aM [(57, x_aM57'), (58, x_aM58')])) H → va_D A (zzM ad cy iM (us aM [(57, x_aM57'), (58, x_aM58')])) → va_S A s.heap H locs → lv_has ls 5 [(0, .ref (ad 0)), (1, .int v1')] → W p l e ({ frames := 1, cells := 0, slots := 0, locals := 24 } : Room) s m args below meth c H locs 0 0 QQ (F0 m 2 ls [])) (v2 : Int32) (x_aM58 : Nat → Int32) (H : Heap) (locs : List Loc) (ls : Array Slot), f_M_findTruths_320 N (iM 14) (iM 36) (aM 8) (aM 9) (aM 10) (aM 11) (aM 13) (aM 30) (aM 32) (aM 34) (aM 35) (aM 57) (aM 58) (aM 59) (aM 60) k2 v1 x_aM57 n v2 x_aM58 = some q → va_P (dC, dI) vwCl (zzM ad cy iM (us aM [(57, x_aM57), (58, x_aM58)])) H → va_D A (zzM ad cy iM (us aM [(57, x_aM57), (58, x_aM58)])) → va_S A s.heap H locs → lv_has ls 5 [(0, .ref (ad 0)), (1, .int v1), (2, .int v2)] → W p l e ({ frames := 1, cells := 0, slots := 0, locals := 24 } : Room) s m args below meth c H locs 0 0 QQ (F0 m 320 ls []) := by
    intro n
    induction n with
    | zero =>
      intro v1 x_aM57 k2 hk2 v2 x_aM58 H locs ls h hP hD hS hl
      rw [f_M_findTruths_320] at h
      cases h
    | succ n ih =>
      intro v1 x_aM57 k2 hk2 v2 x_aM58 H locs ls h hP hD hS hl
      rw [f_M_findTruths_320] at h
      refine lv_iload_n hx hb dX8_findTruths_320 rfl (lv_at hl 2 rfl) ?_
      refine lv_aload_n hx hb dX8_findTruths_321 rfl (lv_at hl 0 rfl) ?_
      refine va_get (D := (dC, dI)) (ci := 8) (v := .int (iM 36)) (C := RX8) (T := TX8) (N := 78) hx hb hts ki8 hown hK hP 0 rfl rfl 36 (by decide) kf353 (fun _ h9 => h9) rfl dX8_findTruths_322 ?_
      refine lv_icmp_ge (tgt := 381) hx hb dX8_findTruths_325 (by decide) (fun cz => ?_) (fun cz => ?_)
      · have h := g_t h cz
        refine lv_iinc (v := (v1 + (1 : Int32))) (lv' := [(1, .int ((v1 + (1 : Int32)))), (0, .ref (ad 0)), (2, .int v2)]) hx hb dX8_findTruths_381 hl (k := 1) rfl rfl (by decide) rfl (fun ls hl => ?_)
        refine lv_goto (tgt := 2) hx hb dX8_findTruths_384 (by decide) ?_
        exact hk2 ((v1 + (1 : Int32))) x_aM57 x_aM58 H locs ls h hP hD hS (lv_sub hl [1, 0] rfl)
      · have h := g_f h cz
        refine lv_aload_n hx hb dX8_findTruths_328 rfl (lv_at hl 0 rfl) ?_
        refine va_get (D := (dC, dI)) (ci := 8) (v := .ref (ad 21)) (C := RX8) (T := TX8) (N := 78) hx hb hts ki8 hown hK hP 0 rfl rfl 32 (by decide) kf73 (fun _ h9 => h9) rfl dX8_findTruths_329 ?_
        refine lv_iload_n hx hb dX8_findTruths_332 rfl (lv_at hl 2 rfl) ?_
        obtain ⟨g_99, h⟩ := g_n h
        refine va_iald (f := (aM 32)) hx hb hK hP 21 0 rfl rfl g_99 dX8_findTruths_333 ?_
        refine lv_if_lt (tgt := 375) hx hb dX8_findTruths_334 (by decide) (fun cz => ?_) (fun cz => ?_)
        · have h := g_t h cz
          refine lv_iinc (v := (v2 + (1 : Int32))) (lv' := [(2, .int ((v2 + (1 : Int32)))), (0, .ref (ad 0)), (1, .int v1)]) hx hb dX8_findTruths_375 hl (k := 2) rfl rfl (by decide) rfl (fun ls hl => ?_)
          refine lv_goto (tgt := 320) hx hb dX8_findTruths_378 (by decide) ?_
          exact ih v1 x_aM57 k2 hk2 ((v2 + (1 : Int32))) x_aM58 H locs ls h hP hD hS (lv_sub hl [1, 2, 0] rfl)
        · have h := g_f h cz
          refine lv_aload_n hx hb dX8_findTruths_337 rfl (lv_at hl 0 rfl) ?_
          refine va_get (D := (dC, dI)) (ci := 8) (v := .ref (ad 29)) (C := RX8) (T := TX8) (N := 78) hx hb hts ki8 hown hK hP 0 rfl rfl 57 (by decide) kf102 (fun _ h9 => h9) rfl dX8_findTruths_338 ?_
          refine lv_sipush (v := 512) hx hb dX8_findTruths_341 (by decide) ?_
          refine lv_aload_n hx hb dX8_findTruths_344 rfl (lv_at hl 0 rfl) ?_
          refine va_get (D := (dC, dI)) (ci := 8) (v := .ref (ad 23)) (C := RX8) (T := TX8) (N := 78) hx hb hts ki8 hown hK hP 0 rfl rfl 34 (by decide) kf79 (fun _ h9 => h9) rfl dX8_findTruths_345 ?_
          refine lv_iload_n hx hb dX8_findTruths_348 rfl (lv_at hl 2 rfl) ?_
          refine va_iald (f := (aM 34)) hx hb hK hP 23 0 rfl rfl g_99 dX8_findTruths_349 ?_
          refine lv_imul hx hb dX8_findTruths_350 ?_
          refine lv_iload_n hx hb dX8_findTruths_351 rfl (lv_at hl 1 rfl) ?_
          refine lv_iadd hx hb dX8_findTruths_352 ?_
          obtain ⟨g_100, h⟩ := g_n h
          refine va_zald (f := x_aM57) hx hb hK hP 29 4 rfl rfl g_100 dX8_findTruths_353 ?_
          refine lv_aload_n hx hb dX8_findTruths_354 rfl (lv_at hl 0 rfl) ?_
          refine va_get (D := (dC, dI)) (ci := 8) (v := .ref (ad 24)) (C := RX8) (T := TX8) (N := 78) hx hb hts ki8 hown hK hP 0 rfl rfl 35 (by decide) kf82 (fun _ h9 => h9) rfl dX8_findTruths_355 ?_
          refine lv_iload_n hx hb dX8_findTruths_358 rfl (lv_at hl 2 rfl) ?_
          refine va_zald (f := (aM 35)) hx hb hK hP 24 4 rfl rfl g_99 dX8_findTruths_359 ?_
          refine lv_icmp_eq (tgt := 375) hx hb dX8_findTruths_360 (by decide) (fun cz => ?_) (fun cz => ?_)
          · have h := g_t h cz
            refine lv_iinc (v := (v2 + (1 : Int32))) (lv' := [(2, .int ((v2 + (1 : Int32)))), (0, .ref (ad 0)), (1, .int v1)]) hx hb dX8_findTruths_375 hl (k := 2) rfl rfl (by decide) rfl (fun ls hl => ?_)
            refine lv_goto (tgt := 320) hx hb dX8_findTruths_378 (by decide) ?_
            exact ih v1 x_aM57 k2 hk2 ((v2 + (1 : Int32))) x_aM58 H locs ls h hP hD hS (lv_sub hl [1, 2, 0] rfl)
          · have h := g_f h cz
            refine lv_aload_n hx hb dX8_findTruths_363 rfl (lv_at hl 0 rfl) ?_
            refine va_get (D := (dC, dI)) (ci := 8) (v := .ref (ad 30)) (C := RX8) (T := TX8) (N := 78) hx hb hts ki8 hown hK hP 0 rfl rfl 58 (by decide) kf105 (fun _ h9 => h9) rfl dX8_findTruths_364 ?_
            refine lv_iload_n hx hb dX8_findTruths_367 rfl (lv_at hl 1 rfl) ?_
            refine lv_dup2_11 hx hb dX8_findTruths_368 rfl rfl ?_
            obtain ⟨g_32, h⟩ := g_n h
            refine va_iald (f := x_aM58) hx hb hK hP 30 0 rfl rfl g_32 dX8_findTruths_369 ?_
            refine lv_iconst (v := 1) hx hb dX8_findTruths_370 (by decide) ?_
            refine lv_iload_n hx hb dX8_findTruths_371 rfl (lv_at hl 2 rfl) ?_
            refine lv_ishl hx hb dX8_findTruths_372 ?_
            refine lv_ior hx hb dX8_findTruths_373 ?_
            refine va_iast (f := x_aM58) hx hb hK hP hD hS 30 0 rfl rfl g_32 dX8_findTruths_374 (fun H locs hP hD hS => ?_)
            have hP : va_P (dC, dI) vwCl (zzM ad cy iM (us aM [(57, x_aM57), (58, (upd x_aM58 v1.toNatClampNeg (((x_aM58 v1.toNatClampNeg) ||| ((1 : Int32) <<< (v2 &&& 31))))))])) H := Eq.mp (congrArg (fun w => va_P (dC, dI) vwCl w H) (stM_aM58 ad cy iM aM [(57, x_aM57), (58, x_aM58)] ((upd x_aM58 v1.toNatClampNeg (((x_aM58 v1.toNatClampNeg) ||| ((1 : Int32) <<< (v2 &&& 31)))))))) hP
            have hD : va_D A (zzM ad cy iM (us aM [(57, x_aM57), (58, (upd x_aM58 v1.toNatClampNeg (((x_aM58 v1.toNatClampNeg) ||| ((1 : Int32) <<< (v2 &&& 31))))))])) := Eq.mp (congrArg (fun w => va_D A w) (stM_aM58 ad cy iM aM [(57, x_aM57), (58, x_aM58)] ((upd x_aM58 v1.toNatClampNeg (((x_aM58 v1.toNatClampNeg) ||| ((1 : Int32) <<< (v2 &&& 31)))))))) hD
            refine lv_iinc (v := (v2 + (1 : Int32))) (lv' := [(2, .int ((v2 + (1 : Int32)))), (0, .ref (ad 0)), (1, .int v1)]) hx hb dX8_findTruths_375 hl (k := 2) rfl rfl (by decide) rfl (fun ls hl => ?_)
            refine lv_goto (tgt := 320) hx hb dX8_findTruths_378 (by decide) ?_
            exact ih v1 x_aM57 k2 hk2 ((v2 + (1 : Int32))) ((upd x_aM58 v1.toNatClampNeg (((x_aM58 v1.toNatClampNeg) ||| ((1 : Int32) <<< (v2 &&& 31)))))) H locs ls h hP hD hS (lv_sub hl [1, 2, 0] rfl)
  have B12 : ∀ (n : Nat) (v1 : Int32) (x_aM58 : Nat → Int32) (k2 : Int32 → (Nat → Int32) → (Nat → Int32) → Option ((Nat → Int32) × (Nat → Int32) × (Nat → Int32) × (Nat → Int32))) (hk2 : ∀ (v1' : Int32) (x_aM57' : Nat → Int32) (x_aM58' : Nat → Int32) (H : Heap) (locs : List Loc) (ls : Array Slot), k2 v1' x_aM57' x_aM58' = some q → va_P (dC, dI) vwCl (zzM ad cy iM (us aM [(57, x_aM57'), (58, x_aM58')])) H → va_D A (zzM ad cy iM (us aM [(57, x_aM57'), (58, x_aM58')])) → va_S A s.heap H locs → lv_has ls 5 [(0, .ref (ad 0)), (1, .int v1')] → W p l e ({ frames := 1, cells := 0, slots := 0, locals := 24 } : Room) s m args below meth c H locs 0 0 QQ (F0 m 2 ls [])) (v2 : Int32) (x_aM57 : Nat → Int32) (H : Heap) (locs : List Loc) (ls : Array Slot), f_M_findTruths_12 N (iM 14) (iM 36) (aM 8) (aM 9) (aM 10) (aM 11) (aM 13) (aM 30) (aM 32) (aM 34) (aM 35) (aM 57) (aM 58) (aM 59) (aM 60) k2 v1 x_aM58 n v2 x_aM57 = some q → va_P (dC, dI) vwCl (zzM ad cy iM (us aM [(57, x_aM57), (58, x_aM58)])) H → va_D A (zzM ad cy iM (us aM [(57, x_aM57), (58, x_aM58)])) → va_S A s.heap H locs → lv_has ls 5 [(0, .ref (ad 0)), (1, .int v1), (2, .int v2)] → W p l e ({ frames := 1, cells := 0, slots := 0, locals := 24 } : Room) s m args below meth c H locs 0 0 QQ (F0 m 12 ls []) := by
    intro n
    induction n with
    | zero =>
      intro v1 x_aM58 k2 hk2 v2 x_aM57 H locs ls h hP hD hS hl
      rw [f_M_findTruths_12] at h
      cases h
    | succ n ih =>
      intro v1 x_aM58 k2 hk2 v2 x_aM57 H locs ls h hP hD hS hl
      rw [f_M_findTruths_12] at h
      refine lv_iload_n hx hb dX8_findTruths_12 rfl (lv_at hl 2 rfl) ?_
      refine lv_aload_n hx hb dX8_findTruths_13 rfl (lv_at hl 0 rfl) ?_
      refine va_get (D := (dC, dI)) (ci := 8) (v := .int (iM 14)) (C := RX8) (T := TX8) (N := 78) hx hb hts ki8 hown hK hP 0 rfl rfl 14 (by decide) kf332 (fun _ h9 => h9) rfl dX8_findTruths_14 ?_
      refine lv_icmp_ge (tgt := 311) hx hb dX8_findTruths_17 (by decide) (fun cz => ?_) (fun cz => ?_)
      · have h := g_t h cz
        refine lv_aload_n hx hb dX8_findTruths_311 rfl (lv_at hl 0 rfl) ?_
        refine va_get (D := (dC, dI)) (ci := 8) (v := .ref (ad 30)) (C := RX8) (T := TX8) (N := 78) hx hb hts ki8 hown hK hP 0 rfl rfl 58 (by decide) kf105 (fun _ h9 => h9) rfl dX8_findTruths_312 ?_
        refine lv_iload_n hx hb dX8_findTruths_315 rfl (lv_at hl 1 rfl) ?_
        refine lv_iconst (v := 0) hx hb dX8_findTruths_316 (by decide) ?_
        obtain ⟨g_32, h⟩ := g_n h
        refine va_iast (f := x_aM58) hx hb hK hP hD hS 30 0 rfl rfl g_32 dX8_findTruths_317 (fun H locs hP hD hS => ?_)
        have hP : va_P (dC, dI) vwCl (zzM ad cy iM (us aM [(57, x_aM57), (58, (upd x_aM58 v1.toNatClampNeg ((0 : Int32))))])) H := Eq.mp (congrArg (fun w => va_P (dC, dI) vwCl w H) (stM_aM58 ad cy iM aM [(57, x_aM57), (58, x_aM58)] ((upd x_aM58 v1.toNatClampNeg ((0 : Int32)))))) hP
        have hD : va_D A (zzM ad cy iM (us aM [(57, x_aM57), (58, (upd x_aM58 v1.toNatClampNeg ((0 : Int32))))])) := Eq.mp (congrArg (fun w => va_D A w) (stM_aM58 ad cy iM aM [(57, x_aM57), (58, x_aM58)] ((upd x_aM58 v1.toNatClampNeg ((0 : Int32)))))) hD
        refine lv_iconst (v := 0) hx hb dX8_findTruths_318 (by decide) ?_
        refine lv_istore_n (lv' := [(2, .int ((0 : Int32))), (0, .ref (ad 0)), (1, .int v1)]) hx hb dX8_findTruths_319 rfl hl (by decide) rfl (fun ls hl => ?_)
        exact B320 N v1 x_aM57 k2 hk2 ((0 : Int32)) ((upd x_aM58 v1.toNatClampNeg ((0 : Int32)))) H locs ls h hP hD hS (lv_sub hl [1, 2, 0] rfl)
      · have h := g_f h cz
        refine lv_aload_n hx hb dX8_findTruths_20 rfl (lv_at hl 0 rfl) ?_
        refine va_get (D := (dC, dI)) (ci := 8) (v := .ref (ad 8)) (C := RX8) (T := TX8) (N := 78) hx hb hts ki8 hown hK hP 0 rfl rfl 13 (by decide) kf33 (fun _ h9 => h9) rfl dX8_findTruths_21 ?_
        refine lv_iload_n hx hb dX8_findTruths_24 rfl (lv_at hl 2 rfl) ?_
        obtain ⟨g_101, h⟩ := g_n h
        refine va_iald (f := (aM 13)) hx hb hK hP 8 0 rfl rfl g_101 dX8_findTruths_25 ?_
        refine lv_istore_n (lv' := [(3, .int (((aM 13) v2.toNatClampNeg))), (0, .ref (ad 0)), (1, .int v1), (2, .int v2)]) hx hb dX8_findTruths_26 rfl hl (by decide) rfl (fun ls hl => ?_)
        refine lv_sipush (v := 512) hx hb dX8_findTruths_27 (by decide) ?_
        refine lv_iload_n hx hb dX8_findTruths_30 rfl (lv_at hl 0 rfl) ?_
        refine lv_imul hx hb dX8_findTruths_31 ?_
        refine lv_iload_n hx hb dX8_findTruths_32 rfl (lv_at hl 2 rfl) ?_
        refine lv_iadd hx hb dX8_findTruths_33 ?_
        refine lv_istore (lv' := [(4, .int ((((512 : Int32) * ((aM 13) v2.toNatClampNeg)) + v1))), (3, .int (((aM 13) v2.toNatClampNeg))), (0, .ref (ad 0)), (1, .int v1), (2, .int v2)]) hx hb dX8_findTruths_34 hl (by decide) rfl (fun ls hl => ?_)
        refine lv_aload_n hx hb dX8_findTruths_36 rfl (lv_at hl 2 rfl) ?_
        refine va_get (D := (dC, dI)) (ci := 8) (v := .ref (ad 3)) (C := RX8) (T := TX8) (N := 78) hx hb hts ki8 hown hK hP 0 rfl rfl 8 (by decide) kf17 (fun _ h9 => h9) rfl dX8_findTruths_37 ?_
        refine lv_iload_n hx hb dX8_findTruths_40 rfl (lv_at hl 1 rfl) ?_
        obtain ⟨g_102, h⟩ := g_n h
        refine va_iald (f := (aM 8)) hx hb hK hP 3 0 rfl rfl g_102 dX8_findTruths_41 ?_
        rcases Decidable.em (((aM 8) (((aM 13) v2.toNatClampNeg)).toNatClampNeg) = (0 : Int32)) with c0 | c0
        · have h := g_t h c0
          refine lv_tableIn (off := 42) (tgt := 84) hx hb dX8_findTruths_42 (by rw [c0]; decide) (by rw [c0]; decide) (by rw [c0]; rfl) (by decide) ?_
          refine lv_aload_n hx hb dX8_findTruths_84 rfl (lv_at hl 2 rfl) ?_
          refine va_get (D := (dC, dI)) (ci := 8) (v := .ref (ad 29)) (C := RX8) (T := TX8) (N := 78) hx hb hts ki8 hown hK hP 0 rfl rfl 57 (by decide) kf102 (fun _ h9 => h9) rfl dX8_findTruths_85 ?_
          refine lv_iload hx hb dX8_findTruths_88 (lv_at hl 0 rfl) ?_
          refine lv_iload_n hx hb dX8_findTruths_90 rfl (lv_at hl 3 rfl) ?_
          refine lv_aload_n hx hb dX8_findTruths_91 rfl (lv_at hl 2 rfl) ?_
          refine va_get (D := (dC, dI)) (ci := 8) (v := .ref (ad 6)) (C := RX8) (T := TX8) (N := 78) hx hb hts ki8 hown hK hP 0 rfl rfl 11 (by decide) kf27 (fun _ h9 => h9) rfl dX8_findTruths_92 ?_
          refine lv_iload_n hx hb dX8_findTruths_95 rfl (lv_at hl 1 rfl) ?_
          refine va_iald (f := (aM 11)) hx hb hK hP 6 0 rfl rfl g_102 dX8_findTruths_96 ?_
          refine lv_ishr hx hb dX8_findTruths_97 ?_
          refine lv_iconst (v := 1) hx hb dX8_findTruths_98 (by decide) ?_
          refine lv_iand hx hb dX8_findTruths_99 ?_
          refine lv_iconst (v := 1) hx hb dX8_findTruths_100 (by decide) ?_
          refine lv_icmp_ne (tgt := 108) hx hb dX8_findTruths_101 (by decide) (fun cz => ?_) (fun cz => ?_)
          · have h := g_f h cz
            refine lv_iconst (v := 0) hx hb dX8_findTruths_108 (by decide) ?_
            exact B109 v1 v2 ((((512 : Int32) * ((aM 13) v2.toNatClampNeg)) + v1)) ((0 : Int32)) x_aM57 x_aM58 (f_M_findTruths_12 N (iM 14) (iM 36) (aM 8) (aM 9) (aM 10) (aM 11) (aM 13) (aM 30) (aM 32) (aM 34) (aM 35) (aM 57) (aM 58) (aM 59) (aM 60) k2 v1 x_aM58 n) (ih v1 x_aM58 k2 hk2) H locs ls h hP hD hS (lv_sub hl [2, 3, 4] rfl)
          · have h := g_t h cz
            refine lv_iconst (v := 1) hx hb dX8_findTruths_104 (by decide) ?_
            refine lv_goto (tgt := 109) hx hb dX8_findTruths_105 (by decide) ?_
            exact B109 v1 v2 ((((512 : Int32) * ((aM 13) v2.toNatClampNeg)) + v1)) ((1 : Int32)) x_aM57 x_aM58 (f_M_findTruths_12 N (iM 14) (iM 36) (aM 8) (aM 9) (aM 10) (aM 11) (aM 13) (aM 30) (aM 32) (aM 34) (aM 35) (aM 57) (aM 58) (aM 59) (aM 60) k2 v1 x_aM58 n) (ih v1 x_aM58 k2 hk2) H locs ls h hP hD hS (lv_sub hl [2, 3, 4] rfl)
        · have h := g_f h c0
          rcases Decidable.em (((aM 8) (((aM 13) v2.toNatClampNeg)).toNatClampNeg) = (1 : Int32)) with c1 | c1
          · have h := g_t h c1
            refine lv_tableIn (off := 99) (tgt := 141) hx hb dX8_findTruths_42 (by rw [c1]; decide) (by rw [c1]; decide) (by rw [c1]; rfl) (by decide) ?_
            refine lv_aload_n hx hb dX8_findTruths_141 rfl (lv_at hl 2 rfl) ?_
            refine va_get (D := (dC, dI)) (ci := 8) (v := .ref (ad 29)) (C := RX8) (T := TX8) (N := 78) hx hb hts ki8 hown hK hP 0 rfl rfl 57 (by decide) kf102 (fun _ h9 => h9) rfl dX8_findTruths_142 ?_
            refine lv_iload hx hb dX8_findTruths_145 (lv_at hl 0 rfl) ?_
            refine lv_iconst (v := 1) hx hb dX8_findTruths_147 (by decide) ?_
            obtain ⟨g_103, h⟩ := g_n h
            refine va_zast (f := x_aM57) hx hb hK hP hD hS 29 4 rfl rfl g_103 dX8_findTruths_148 (fun H locs hP hD hS => ?_)
            have hP : va_P (dC, dI) vwCl (zzM ad cy iM (us aM [(57, (upd x_aM57 ((((512 : Int32) * ((aM 13) v2.toNatClampNeg)) + v1)).toNatClampNeg (vp_nar .boolean ((1 : Int32))))), (58, x_aM58)])) H := Eq.mp (congrArg (fun w => va_P (dC, dI) vwCl w H) (stM_aM57 ad cy iM aM [(57, x_aM57), (58, x_aM58)] ((upd x_aM57 ((((512 : Int32) * ((aM 13) v2.toNatClampNeg)) + v1)).toNatClampNeg (vp_nar .boolean ((1 : Int32))))))) hP
            have hD : va_D A (zzM ad cy iM (us aM [(57, (upd x_aM57 ((((512 : Int32) * ((aM 13) v2.toNatClampNeg)) + v1)).toNatClampNeg (vp_nar .boolean ((1 : Int32))))), (58, x_aM58)])) := Eq.mp (congrArg (fun w => va_D A w) (stM_aM57 ad cy iM aM [(57, x_aM57), (58, x_aM58)] ((upd x_aM57 ((((512 : Int32) * ((aM 13) v2.toNatClampNeg)) + v1)).toNatClampNeg (vp_nar .boolean ((1 : Int32))))))) hD
            refine lv_goto (tgt := 305) hx hb dX8_findTruths_149 (by decide) ?_
            refine lv_iinc (v := (v2 + (1 : Int32))) (lv' := [(2, .int ((v2 + (1 : Int32)))), (4, .int ((((512 : Int32) * ((aM 13) v2.toNatClampNeg)) + v1))), (3, .int (((aM 13) v2.toNatClampNeg))), (0, .ref (ad 0)), (1, .int v1)]) hx hb dX8_findTruths_305 hl (k := 4) rfl rfl (by decide) rfl (fun ls hl => ?_)
            refine lv_goto (tgt := 12) hx hb dX8_findTruths_308 (by decide) ?_
            exact ih v1 x_aM58 k2 hk2 ((v2 + (1 : Int32))) ((upd x_aM57 ((((512 : Int32) * ((aM 13) v2.toNatClampNeg)) + v1)).toNatClampNeg (vp_nar .boolean ((1 : Int32))))) H locs ls h hP hD hS (lv_sub hl [3, 4, 0] rfl)
          · have h := g_f h c1
            rcases Decidable.em (((aM 8) (((aM 13) v2.toNatClampNeg)).toNatClampNeg) = (2 : Int32)) with c2 | c2
            · have h := g_t h c2
              refine lv_tableIn (off := 110) (tgt := 152) hx hb dX8_findTruths_42 (by rw [c2]; decide) (by rw [c2]; decide) (by rw [c2]; rfl) (by decide) ?_
              refine lv_aload_n hx hb dX8_findTruths_152 rfl (lv_at hl 2 rfl) ?_
              refine va_get (D := (dC, dI)) (ci := 8) (v := .ref (ad 29)) (C := RX8) (T := TX8) (N := 78) hx hb hts ki8 hown hK hP 0 rfl rfl 57 (by decide) kf102 (fun _ h9 => h9) rfl dX8_findTruths_153 ?_
              refine lv_iload hx hb dX8_findTruths_156 (lv_at hl 0 rfl) ?_
              refine lv_iconst (v := 0) hx hb dX8_findTruths_158 (by decide) ?_
              obtain ⟨g_103, h⟩ := g_n h
              refine va_zast (f := x_aM57) hx hb hK hP hD hS 29 4 rfl rfl g_103 dX8_findTruths_159 (fun H locs hP hD hS => ?_)
              have hP : va_P (dC, dI) vwCl (zzM ad cy iM (us aM [(57, (upd x_aM57 ((((512 : Int32) * ((aM 13) v2.toNatClampNeg)) + v1)).toNatClampNeg (vp_nar .boolean ((0 : Int32))))), (58, x_aM58)])) H := Eq.mp (congrArg (fun w => va_P (dC, dI) vwCl w H) (stM_aM57 ad cy iM aM [(57, x_aM57), (58, x_aM58)] ((upd x_aM57 ((((512 : Int32) * ((aM 13) v2.toNatClampNeg)) + v1)).toNatClampNeg (vp_nar .boolean ((0 : Int32))))))) hP
              have hD : va_D A (zzM ad cy iM (us aM [(57, (upd x_aM57 ((((512 : Int32) * ((aM 13) v2.toNatClampNeg)) + v1)).toNatClampNeg (vp_nar .boolean ((0 : Int32))))), (58, x_aM58)])) := Eq.mp (congrArg (fun w => va_D A w) (stM_aM57 ad cy iM aM [(57, x_aM57), (58, x_aM58)] ((upd x_aM57 ((((512 : Int32) * ((aM 13) v2.toNatClampNeg)) + v1)).toNatClampNeg (vp_nar .boolean ((0 : Int32))))))) hD
              refine lv_goto (tgt := 305) hx hb dX8_findTruths_160 (by decide) ?_
              refine lv_iinc (v := (v2 + (1 : Int32))) (lv' := [(2, .int ((v2 + (1 : Int32)))), (4, .int ((((512 : Int32) * ((aM 13) v2.toNatClampNeg)) + v1))), (3, .int (((aM 13) v2.toNatClampNeg))), (0, .ref (ad 0)), (1, .int v1)]) hx hb dX8_findTruths_305 hl (k := 4) rfl rfl (by decide) rfl (fun ls hl => ?_)
              refine lv_goto (tgt := 12) hx hb dX8_findTruths_308 (by decide) ?_
              exact ih v1 x_aM58 k2 hk2 ((v2 + (1 : Int32))) ((upd x_aM57 ((((512 : Int32) * ((aM 13) v2.toNatClampNeg)) + v1)).toNatClampNeg (vp_nar .boolean ((0 : Int32))))) H locs ls h hP hD hS (lv_sub hl [3, 4, 0] rfl)
            · have h := g_f h c2
              rcases Decidable.em (((aM 8) (((aM 13) v2.toNatClampNeg)).toNatClampNeg) = (3 : Int32)) with c3 | c3
              · have h := g_t h c3
                refine lv_tableIn (off := 121) (tgt := 163) hx hb dX8_findTruths_42 (by rw [c3]; decide) (by rw [c3]; decide) (by rw [c3]; rfl) (by decide) ?_
                refine lv_aload_n hx hb dX8_findTruths_163 rfl (lv_at hl 2 rfl) ?_
                refine va_get (D := (dC, dI)) (ci := 8) (v := .ref (ad 29)) (C := RX8) (T := TX8) (N := 78) hx hb hts ki8 hown hK hP 0 rfl rfl 57 (by decide) kf102 (fun _ h9 => h9) rfl dX8_findTruths_164 ?_
                refine lv_iload hx hb dX8_findTruths_167 (lv_at hl 0 rfl) ?_
                refine lv_aload_n hx hb dX8_findTruths_169 rfl (lv_at hl 2 rfl) ?_
                refine va_get (D := (dC, dI)) (ci := 8) (v := .ref (ad 29)) (C := RX8) (T := TX8) (N := 78) hx hb hts ki8 hown hK hP 0 rfl rfl 57 (by decide) kf102 (fun _ h9 => h9) rfl dX8_findTruths_170 ?_
                refine lv_sipush (v := 512) hx hb dX8_findTruths_173 (by decide) ?_
                refine lv_aload_n hx hb dX8_findTruths_176 rfl (lv_at hl 2 rfl) ?_
                refine va_get (D := (dC, dI)) (ci := 8) (v := .ref (ad 5)) (C := RX8) (T := TX8) (N := 78) hx hb hts ki8 hown hK hP 0 rfl rfl 10 (by decide) kf24 (fun _ h9 => h9) rfl dX8_findTruths_177 ?_
                refine lv_iload_n hx hb dX8_findTruths_180 rfl (lv_at hl 1 rfl) ?_
                refine va_iald (f := (aM 10)) hx hb hK hP 5 0 rfl rfl g_102 dX8_findTruths_181 ?_
                refine lv_imul hx hb dX8_findTruths_182 ?_
                refine lv_iload_n hx hb dX8_findTruths_183 rfl (lv_at hl 3 rfl) ?_
                refine lv_iadd hx hb dX8_findTruths_184 ?_
                obtain ⟨g_104, h⟩ := g_n h
                refine va_zald (f := x_aM57) hx hb hK hP 29 4 rfl rfl g_104 dX8_findTruths_185 ?_
                refine lv_if_ne (tgt := 193) hx hb dX8_findTruths_186 (by decide) (fun cz => ?_) (fun cz => ?_)
                · have h := g_f h cz
                  refine lv_iconst (v := 0) hx hb dX8_findTruths_193 (by decide) ?_
                  exact B194 v1 v2 ((((512 : Int32) * ((aM 13) v2.toNatClampNeg)) + v1)) ((0 : Int32)) x_aM57 x_aM58 (f_M_findTruths_12 N (iM 14) (iM 36) (aM 8) (aM 9) (aM 10) (aM 11) (aM 13) (aM 30) (aM 32) (aM 34) (aM 35) (aM 57) (aM 58) (aM 59) (aM 60) k2 v1 x_aM58 n) (ih v1 x_aM58 k2 hk2) H locs ls h hP hD hS (lv_sub hl [2, 3, 4] rfl)
                · have h := g_t h cz
                  refine lv_iconst (v := 1) hx hb dX8_findTruths_189 (by decide) ?_
                  refine lv_goto (tgt := 194) hx hb dX8_findTruths_190 (by decide) ?_
                  exact B194 v1 v2 ((((512 : Int32) * ((aM 13) v2.toNatClampNeg)) + v1)) ((1 : Int32)) x_aM57 x_aM58 (f_M_findTruths_12 N (iM 14) (iM 36) (aM 8) (aM 9) (aM 10) (aM 11) (aM 13) (aM 30) (aM 32) (aM 34) (aM 35) (aM 57) (aM 58) (aM 59) (aM 60) k2 v1 x_aM58 n) (ih v1 x_aM58 k2 hk2) H locs ls h hP hD hS (lv_sub hl [2, 3, 4] rfl)
              · have h := g_f h c3
                rcases Decidable.em (((aM 8) (((aM 13) v2.toNatClampNeg)).toNatClampNeg) = (4 : Int32)) with c4 | c4
                · have h := g_t h c4
                  refine lv_tableIn (off := 42) (tgt := 84) hx hb dX8_findTruths_42 (by rw [c4]; decide) (by rw [c4]; decide) (by rw [c4]; rfl) (by decide) ?_
                  refine lv_aload_n hx hb dX8_findTruths_84 rfl (lv_at hl 2 rfl) ?_
                  refine va_get (D := (dC, dI)) (ci := 8) (v := .ref (ad 29)) (C := RX8) (T := TX8) (N := 78) hx hb hts ki8 hown hK hP 0 rfl rfl 57 (by decide) kf102 (fun _ h9 => h9) rfl dX8_findTruths_85 ?_
                  refine lv_iload hx hb dX8_findTruths_88 (lv_at hl 0 rfl) ?_
                  refine lv_iload_n hx hb dX8_findTruths_90 rfl (lv_at hl 3 rfl) ?_
                  refine lv_aload_n hx hb dX8_findTruths_91 rfl (lv_at hl 2 rfl) ?_
                  refine va_get (D := (dC, dI)) (ci := 8) (v := .ref (ad 6)) (C := RX8) (T := TX8) (N := 78) hx hb hts ki8 hown hK hP 0 rfl rfl 11 (by decide) kf27 (fun _ h9 => h9) rfl dX8_findTruths_92 ?_
                  refine lv_iload_n hx hb dX8_findTruths_95 rfl (lv_at hl 1 rfl) ?_
                  refine va_iald (f := (aM 11)) hx hb hK hP 6 0 rfl rfl g_102 dX8_findTruths_96 ?_
                  refine lv_ishr hx hb dX8_findTruths_97 ?_
                  refine lv_iconst (v := 1) hx hb dX8_findTruths_98 (by decide) ?_
                  refine lv_iand hx hb dX8_findTruths_99 ?_
                  refine lv_iconst (v := 1) hx hb dX8_findTruths_100 (by decide) ?_
                  refine lv_icmp_ne (tgt := 108) hx hb dX8_findTruths_101 (by decide) (fun cz => ?_) (fun cz => ?_)
                  · have h := g_f h cz
                    refine lv_iconst (v := 0) hx hb dX8_findTruths_108 (by decide) ?_
                    exact B109 v1 v2 ((((512 : Int32) * ((aM 13) v2.toNatClampNeg)) + v1)) ((0 : Int32)) x_aM57 x_aM58 (f_M_findTruths_12 N (iM 14) (iM 36) (aM 8) (aM 9) (aM 10) (aM 11) (aM 13) (aM 30) (aM 32) (aM 34) (aM 35) (aM 57) (aM 58) (aM 59) (aM 60) k2 v1 x_aM58 n) (ih v1 x_aM58 k2 hk2) H locs ls h hP hD hS (lv_sub hl [2, 3, 4] rfl)
                  · have h := g_t h cz
                    refine lv_iconst (v := 1) hx hb dX8_findTruths_104 (by decide) ?_
                    refine lv_goto (tgt := 109) hx hb dX8_findTruths_105 (by decide) ?_
                    exact B109 v1 v2 ((((512 : Int32) * ((aM 13) v2.toNatClampNeg)) + v1)) ((1 : Int32)) x_aM57 x_aM58 (f_M_findTruths_12 N (iM 14) (iM 36) (aM 8) (aM 9) (aM 10) (aM 11) (aM 13) (aM 30) (aM 32) (aM 34) (aM 35) (aM 57) (aM 58) (aM 59) (aM 60) k2 v1 x_aM58 n) (ih v1 x_aM58 k2 hk2) H locs ls h hP hD hS (lv_sub hl [2, 3, 4] rfl)
                · have h := g_f h c4
                  rcases Decidable.em (((aM 8) (((aM 13) v2.toNatClampNeg)).toNatClampNeg) = (5 : Int32)) with c5 | c5
                  · have h := g_t h c5
                    refine lv_tableIn (off := 71) (tgt := 113) hx hb dX8_findTruths_42 (by rw [c5]; decide) (by rw [c5]; decide) (by rw [c5]; rfl) (by decide) ?_
                    refine lv_aload_n hx hb dX8_findTruths_113 rfl (lv_at hl 2 rfl) ?_
                    refine va_get (D := (dC, dI)) (ci := 8) (v := .ref (ad 29)) (C := RX8) (T := TX8) (N := 78) hx hb hts ki8 hown hK hP 0 rfl rfl 57 (by decide) kf102 (fun _ h9 => h9) rfl dX8_findTruths_114 ?_
                    refine lv_iload hx hb dX8_findTruths_117 (lv_at hl 0 rfl) ?_
                    refine lv_iload_n hx hb dX8_findTruths_119 rfl (lv_at hl 3 rfl) ?_
                    refine lv_aload_n hx hb dX8_findTruths_120 rfl (lv_at hl 2 rfl) ?_
                    refine va_get (D := (dC, dI)) (ci := 8) (v := .ref (ad 6)) (C := RX8) (T := TX8) (N := 78) hx hb hts ki8 hown hK hP 0 rfl rfl 11 (by decide) kf27 (fun _ h9 => h9) rfl dX8_findTruths_121 ?_
                    refine lv_iload_n hx hb dX8_findTruths_124 rfl (lv_at hl 1 rfl) ?_
                    refine va_iald (f := (aM 11)) hx hb hK hP 6 0 rfl rfl g_102 dX8_findTruths_125 ?_
                    refine lv_ishr hx hb dX8_findTruths_126 ?_
                    refine lv_iconst (v := 1) hx hb dX8_findTruths_127 (by decide) ?_
                    refine lv_iand hx hb dX8_findTruths_128 ?_
                    refine lv_if_ne (tgt := 136) hx hb dX8_findTruths_129 (by decide) (fun cz => ?_) (fun cz => ?_)
                    · have h := g_f h cz
                      refine lv_iconst (v := 0) hx hb dX8_findTruths_136 (by decide) ?_
                      exact B137 v1 v2 ((((512 : Int32) * ((aM 13) v2.toNatClampNeg)) + v1)) ((0 : Int32)) x_aM57 x_aM58 (f_M_findTruths_12 N (iM 14) (iM 36) (aM 8) (aM 9) (aM 10) (aM 11) (aM 13) (aM 30) (aM 32) (aM 34) (aM 35) (aM 57) (aM 58) (aM 59) (aM 60) k2 v1 x_aM58 n) (ih v1 x_aM58 k2 hk2) H locs ls h hP hD hS (lv_sub hl [2, 3, 4] rfl)
                    · have h := g_t h cz
                      refine lv_iconst (v := 1) hx hb dX8_findTruths_132 (by decide) ?_
                      refine lv_goto (tgt := 137) hx hb dX8_findTruths_133 (by decide) ?_
                      exact B137 v1 v2 ((((512 : Int32) * ((aM 13) v2.toNatClampNeg)) + v1)) ((1 : Int32)) x_aM57 x_aM58 (f_M_findTruths_12 N (iM 14) (iM 36) (aM 8) (aM 9) (aM 10) (aM 11) (aM 13) (aM 30) (aM 32) (aM 34) (aM 35) (aM 57) (aM 58) (aM 59) (aM 60) k2 v1 x_aM58 n) (ih v1 x_aM58 k2 hk2) H locs ls h hP hD hS (lv_sub hl [2, 3, 4] rfl)
                  · have h := g_f h c5
                    rcases Decidable.em (((aM 8) (((aM 13) v2.toNatClampNeg)).toNatClampNeg) = (6 : Int32)) with c6 | c6
                    · have h := g_t h c6
                      refine lv_tableIn (off := 156) (tgt := 198) hx hb dX8_findTruths_42 (by rw [c6]; decide) (by rw [c6]; decide) (by rw [c6]; rfl) (by decide) ?_
                      refine lv_aload_n hx hb dX8_findTruths_198 rfl (lv_at hl 2 rfl) ?_
                      refine va_get (D := (dC, dI)) (ci := 8) (v := .ref (ad 29)) (C := RX8) (T := TX8) (N := 78) hx hb hts ki8 hown hK hP 0 rfl rfl 57 (by decide) kf102 (fun _ h9 => h9) rfl dX8_findTruths_199 ?_
                      refine lv_iload hx hb dX8_findTruths_202 (lv_at hl 0 rfl) ?_
                      refine lv_aload_n hx hb dX8_findTruths_204 rfl (lv_at hl 2 rfl) ?_
                      refine va_get (D := (dC, dI)) (ci := 8) (v := .ref (ad 29)) (C := RX8) (T := TX8) (N := 78) hx hb hts ki8 hown hK hP 0 rfl rfl 57 (by decide) kf102 (fun _ h9 => h9) rfl dX8_findTruths_205 ?_
                      refine lv_sipush (v := 512) hx hb dX8_findTruths_208 (by decide) ?_
                      refine lv_aload_n hx hb dX8_findTruths_211 rfl (lv_at hl 2 rfl) ?_
                      refine va_get (D := (dC, dI)) (ci := 8) (v := .ref (ad 4)) (C := RX8) (T := TX8) (N := 78) hx hb hts ki8 hown hK hP 0 rfl rfl 9 (by decide) kf21 (fun _ h9 => h9) rfl dX8_findTruths_212 ?_
                      refine lv_iload_n hx hb dX8_findTruths_215 rfl (lv_at hl 1 rfl) ?_
                      refine va_iald (f := (aM 9)) hx hb hK hP 4 0 rfl rfl g_102 dX8_findTruths_216 ?_
                      refine lv_imul hx hb dX8_findTruths_217 ?_
                      refine lv_iload_n hx hb dX8_findTruths_218 rfl (lv_at hl 3 rfl) ?_
                      refine lv_iadd hx hb dX8_findTruths_219 ?_
                      obtain ⟨g_105, h⟩ := g_n h
                      refine va_zald (f := x_aM57) hx hb hK hP 29 4 rfl rfl g_105 dX8_findTruths_220 ?_
                      refine lv_if_eq (tgt := 248) hx hb dX8_findTruths_221 (by decide) (fun cz => ?_) (fun cz => ?_)
                      · have h := g_t h cz
                        refine lv_iconst (v := 0) hx hb dX8_findTruths_248 (by decide) ?_
                        exact B249 v1 v2 ((((512 : Int32) * ((aM 13) v2.toNatClampNeg)) + v1)) ((0 : Int32)) x_aM57 x_aM58 (f_M_findTruths_12 N (iM 14) (iM 36) (aM 8) (aM 9) (aM 10) (aM 11) (aM 13) (aM 30) (aM 32) (aM 34) (aM 35) (aM 57) (aM 58) (aM 59) (aM 60) k2 v1 x_aM58 n) (ih v1 x_aM58 k2 hk2) H locs ls h hP hD hS (lv_sub hl [2, 3, 4] rfl)
                      · have h := g_f h cz
                        refine lv_aload_n hx hb dX8_findTruths_224 rfl (lv_at hl 2 rfl) ?_
                        refine va_get (D := (dC, dI)) (ci := 8) (v := .ref (ad 29)) (C := RX8) (T := TX8) (N := 78) hx hb hts ki8 hown hK hP 0 rfl rfl 57 (by decide) kf102 (fun _ h9 => h9) rfl dX8_findTruths_225 ?_
                        refine lv_sipush (v := 512) hx hb dX8_findTruths_228 (by decide) ?_
                        refine lv_aload_n hx hb dX8_findTruths_231 rfl (lv_at hl 2 rfl) ?_
                        refine va_get (D := (dC, dI)) (ci := 8) (v := .ref (ad 5)) (C := RX8) (T := TX8) (N := 78) hx hb hts ki8 hown hK hP 0 rfl rfl 10 (by decide) kf24 (fun _ h9 => h9) rfl dX8_findTruths_232 ?_
                        refine lv_iload_n hx hb dX8_findTruths_235 rfl (lv_at hl 1 rfl) ?_
                        refine va_iald (f := (aM 10)) hx hb hK hP 5 0 rfl rfl g_102 dX8_findTruths_236 ?_
                        refine lv_imul hx hb dX8_findTruths_237 ?_
                        refine lv_iload_n hx hb dX8_findTruths_238 rfl (lv_at hl 3 rfl) ?_
                        refine lv_iadd hx hb dX8_findTruths_239 ?_
                        obtain ⟨g_104, h⟩ := g_n h
                        refine va_zald (f := x_aM57) hx hb hK hP 29 4 rfl rfl g_104 dX8_findTruths_240 ?_
                        refine lv_if_eq (tgt := 248) hx hb dX8_findTruths_241 (by decide) (fun cz => ?_) (fun cz => ?_)
                        · have h := g_t h cz
                          refine lv_iconst (v := 0) hx hb dX8_findTruths_248 (by decide) ?_
                          exact B249 v1 v2 ((((512 : Int32) * ((aM 13) v2.toNatClampNeg)) + v1)) ((0 : Int32)) x_aM57 x_aM58 (f_M_findTruths_12 N (iM 14) (iM 36) (aM 8) (aM 9) (aM 10) (aM 11) (aM 13) (aM 30) (aM 32) (aM 34) (aM 35) (aM 57) (aM 58) (aM 59) (aM 60) k2 v1 x_aM58 n) (ih v1 x_aM58 k2 hk2) H locs ls h hP hD hS (lv_sub hl [2, 3, 4] rfl)
                        · have h := g_f h cz
                          refine lv_iconst (v := 1) hx hb dX8_findTruths_244 (by decide) ?_
                          refine lv_goto (tgt := 249) hx hb dX8_findTruths_245 (by decide) ?_
                          exact B249 v1 v2 ((((512 : Int32) * ((aM 13) v2.toNatClampNeg)) + v1)) ((1 : Int32)) x_aM57 x_aM58 (f_M_findTruths_12 N (iM 14) (iM 36) (aM 8) (aM 9) (aM 10) (aM 11) (aM 13) (aM 30) (aM 32) (aM 34) (aM 35) (aM 57) (aM 58) (aM 59) (aM 60) k2 v1 x_aM58 n) (ih v1 x_aM58 k2 hk2) H locs ls h hP hD hS (lv_sub hl [2, 3, 4] rfl)
                    · have h := g_f h c6
                      refine lv_tableOut (tgt := 253) hx hb dX8_findTruths_42 (by have z0 := tne (n := 0) (by decide) c0; have z1 := tne (n := 1) (by decide) c1; have z2 := tne (n := 2) (by decide) c2; have z3 := tne (n := 3) (by decide) c3; have z4 := tne (n := 4) (by decide) c4; have z5 := tne (n := 5) (by decide) c5; have z6 := tne (n := 6) (by decide) c6; omega) (by decide) ?_
                      refine lv_aload_n hx hb dX8_findTruths_253 rfl (lv_at hl 2 rfl) ?_
                      refine va_get (D := (dC, dI)) (ci := 8) (v := .ref (ad 29)) (C := RX8) (T := TX8) (N := 78) hx hb hts ki8 hown hK hP 0 rfl rfl 57 (by decide) kf102 (fun _ h9 => h9) rfl dX8_findTruths_254 ?_
                      refine lv_iload hx hb dX8_findTruths_257 (lv_at hl 0 rfl) ?_
                      refine lv_aload_n hx hb dX8_findTruths_259 rfl (lv_at hl 2 rfl) ?_
                      refine va_get (D := (dC, dI)) (ci := 8) (v := .ref (ad 29)) (C := RX8) (T := TX8) (N := 78) hx hb hts ki8 hown hK hP 0 rfl rfl 57 (by decide) kf102 (fun _ h9 => h9) rfl dX8_findTruths_260 ?_
                      refine lv_sipush (v := 512) hx hb dX8_findTruths_263 (by decide) ?_
                      refine lv_aload_n hx hb dX8_findTruths_266 rfl (lv_at hl 2 rfl) ?_
                      refine va_get (D := (dC, dI)) (ci := 8) (v := .ref (ad 4)) (C := RX8) (T := TX8) (N := 78) hx hb hts ki8 hown hK hP 0 rfl rfl 9 (by decide) kf21 (fun _ h9 => h9) rfl dX8_findTruths_267 ?_
                      refine lv_iload_n hx hb dX8_findTruths_270 rfl (lv_at hl 1 rfl) ?_
                      refine va_iald (f := (aM 9)) hx hb hK hP 4 0 rfl rfl g_102 dX8_findTruths_271 ?_
                      refine lv_imul hx hb dX8_findTruths_272 ?_
                      refine lv_iload_n hx hb dX8_findTruths_273 rfl (lv_at hl 3 rfl) ?_
                      refine lv_iadd hx hb dX8_findTruths_274 ?_
                      obtain ⟨g_105, h⟩ := g_n h
                      refine va_zald (f := x_aM57) hx hb hK hP 29 4 rfl rfl g_105 dX8_findTruths_275 ?_
                      refine lv_if_ne (tgt := 299) hx hb dX8_findTruths_276 (by decide) (fun cz => ?_) (fun cz => ?_)
                      · have h := g_f h cz
                        refine lv_iconst (v := 1) hx hb dX8_findTruths_299 (by decide) ?_
                        refine lv_goto (tgt := 304) hx hb dX8_findTruths_300 (by decide) ?_
                        exact B304 v1 v2 ((((512 : Int32) * ((aM 13) v2.toNatClampNeg)) + v1)) ((1 : Int32)) x_aM57 x_aM58 (f_M_findTruths_12 N (iM 14) (iM 36) (aM 8) (aM 9) (aM 10) (aM 11) (aM 13) (aM 30) (aM 32) (aM 34) (aM 35) (aM 57) (aM 58) (aM 59) (aM 60) k2 v1 x_aM58 n) (ih v1 x_aM58 k2 hk2) H locs ls h hP hD hS (lv_sub hl [2, 3, 4] rfl)
                      · have h := g_t h cz
                        refine lv_aload_n hx hb dX8_findTruths_279 rfl (lv_at hl 2 rfl) ?_
                        refine va_get (D := (dC, dI)) (ci := 8) (v := .ref (ad 29)) (C := RX8) (T := TX8) (N := 78) hx hb hts ki8 hown hK hP 0 rfl rfl 57 (by decide) kf102 (fun _ h9 => h9) rfl dX8_findTruths_280 ?_
                        refine lv_sipush (v := 512) hx hb dX8_findTruths_283 (by decide) ?_
                        refine lv_aload_n hx hb dX8_findTruths_286 rfl (lv_at hl 2 rfl) ?_
                        refine va_get (D := (dC, dI)) (ci := 8) (v := .ref (ad 5)) (C := RX8) (T := TX8) (N := 78) hx hb hts ki8 hown hK hP 0 rfl rfl 10 (by decide) kf24 (fun _ h9 => h9) rfl dX8_findTruths_287 ?_
                        refine lv_iload_n hx hb dX8_findTruths_290 rfl (lv_at hl 1 rfl) ?_
                        refine va_iald (f := (aM 10)) hx hb hK hP 5 0 rfl rfl g_102 dX8_findTruths_291 ?_
                        refine lv_imul hx hb dX8_findTruths_292 ?_
                        refine lv_iload_n hx hb dX8_findTruths_293 rfl (lv_at hl 3 rfl) ?_
                        refine lv_iadd hx hb dX8_findTruths_294 ?_
                        obtain ⟨g_104, h⟩ := g_n h
                        refine va_zald (f := x_aM57) hx hb hK hP 29 4 rfl rfl g_104 dX8_findTruths_295 ?_
                        refine lv_if_eq (tgt := 303) hx hb dX8_findTruths_296 (by decide) (fun cz => ?_) (fun cz => ?_)
                        · have h := g_t h cz
                          refine lv_iconst (v := 0) hx hb dX8_findTruths_303 (by decide) ?_
                          exact B304 v1 v2 ((((512 : Int32) * ((aM 13) v2.toNatClampNeg)) + v1)) ((0 : Int32)) x_aM57 x_aM58 (f_M_findTruths_12 N (iM 14) (iM 36) (aM 8) (aM 9) (aM 10) (aM 11) (aM 13) (aM 30) (aM 32) (aM 34) (aM 35) (aM 57) (aM 58) (aM 59) (aM 60) k2 v1 x_aM58 n) (ih v1 x_aM58 k2 hk2) H locs ls h hP hD hS (lv_sub hl [2, 3, 4] rfl)
                        · have h := g_f h cz
                          refine lv_iconst (v := 1) hx hb dX8_findTruths_299 (by decide) ?_
                          refine lv_goto (tgt := 304) hx hb dX8_findTruths_300 (by decide) ?_
                          exact B304 v1 v2 ((((512 : Int32) * ((aM 13) v2.toNatClampNeg)) + v1)) ((1 : Int32)) x_aM57 x_aM58 (f_M_findTruths_12 N (iM 14) (iM 36) (aM 8) (aM 9) (aM 10) (aM 11) (aM 13) (aM 30) (aM 32) (aM 34) (aM 35) (aM 57) (aM 58) (aM 59) (aM 60) k2 v1 x_aM58 n) (ih v1 x_aM58 k2 hk2) H locs ls h hP hD hS (lv_sub hl [2, 3, 4] rfl)
  have B474 : ∀ (v1 : Int32) (v2 : Int32) (s1 : Int32) (s2 : Int32) (s3 : Int32) (x_aM57 : Nat → Int32) (x_aM58 : Nat → Int32) (x_aM59 : Nat → Int32) (x_aM60 : Nat → Int32) (k410 : Int32 → (Nat → Int32) → (Nat → Int32) → Option ((Nat → Int32) × (Nat → Int32) × (Nat → Int32) × (Nat → Int32))) (hk410 : ∀ (v2' : Int32) (x_aM59' : Nat → Int32) (x_aM60' : Nat → Int32) (H : Heap) (locs : List Loc) (ls : Array Slot), k410 v2' x_aM59' x_aM60' = some q → va_P (dC, dI) vwCl (zzM ad cy iM (us aM [(57, x_aM57), (58, x_aM58), (59, x_aM59'), (60, x_aM60')])) H → va_D A (zzM ad cy iM (us aM [(57, x_aM57), (58, x_aM58), (59, x_aM59'), (60, x_aM60')])) → va_S A s.heap H locs → lv_has ls 5 [(0, .ref (ad 0)), (1, .int v1), (2, .int v2')] → W p l e ({ frames := 1, cells := 0, slots := 0, locals := 24 } : Room) s m args below meth c H locs 0 0 QQ (F0 m 410 ls [])) (H : Heap) (locs : List Loc) (ls : Array Slot), f_M_findTruths_474 N (iM 14) (iM 36) (aM 8) (aM 9) (aM 10) (aM 11) (aM 13) (aM 30) (aM 32) (aM 34) (aM 35) (aM 57) (aM 58) (aM 59) (aM 60) k410 v1 v2 s1 s2 s3 x_aM57 x_aM58 x_aM59 x_aM60 = some q → va_P (dC, dI) vwCl (zzM ad cy iM (us aM [(57, x_aM57), (58, x_aM58), (59, x_aM59), (60, x_aM60)])) H → va_D A (zzM ad cy iM (us aM [(57, x_aM57), (58, x_aM58), (59, x_aM59), (60, x_aM60)])) → va_S A s.heap H locs → lv_has ls 5 [(0, .ref (ad 0)), (1, .int v1), (2, .int v2)] → W p l e ({ frames := 1, cells := 0, slots := 0, locals := 24 } : Room) s m args below meth c H locs 0 0 QQ (F0 m 474 ls [.int s3, .int s2, .int s1, .ref (ad 32)]) := by
    intro v1 v2 s1 s2 s3 x_aM57 x_aM58 x_aM59 x_aM60 k410 hk410 H locs ls h hP hD hS hl
    unfold f_M_findTruths_474 at h
    refine lv_ior hx hb dX8_findTruths_474 ?_
    obtain ⟨g_106, h⟩ := g_n h
    refine va_iast (f := x_aM60) hx hb hK hP hD hS 32 0 rfl rfl g_106 dX8_findTruths_475 (fun H locs hP hD hS => ?_)
    have hP : va_P (dC, dI) vwCl (zzM ad cy iM (us aM [(57, x_aM57), (58, x_aM58), (59, x_aM59), (60, (upd x_aM60 s1.toNatClampNeg ((s2 ||| s3))))])) H := Eq.mp (congrArg (fun w => va_P (dC, dI) vwCl w H) (stM_aM60 ad cy iM aM [(57, x_aM57), (58, x_aM58), (59, x_aM59), (60, x_aM60)] ((upd x_aM60 s1.toNatClampNeg ((s2 ||| s3)))))) hP
    have hD : va_D A (zzM ad cy iM (us aM [(57, x_aM57), (58, x_aM58), (59, x_aM59), (60, (upd x_aM60 s1.toNatClampNeg ((s2 ||| s3))))])) := Eq.mp (congrArg (fun w => va_D A w) (stM_aM60 ad cy iM aM [(57, x_aM57), (58, x_aM58), (59, x_aM59), (60, x_aM60)] ((upd x_aM60 s1.toNatClampNeg ((s2 ||| s3)))))) hD
    refine lv_iinc (v := (v2 + (1 : Int32))) (lv' := [(2, .int ((v2 + (1 : Int32)))), (0, .ref (ad 0)), (1, .int v1)]) hx hb dX8_findTruths_476 hl (k := 2) rfl rfl (by decide) rfl (fun ls hl => ?_)
    refine lv_goto (tgt := 410) hx hb dX8_findTruths_479 (by decide) ?_
    exact hk410 ((v2 + (1 : Int32))) x_aM59 ((upd x_aM60 s1.toNatClampNeg ((s2 ||| s3)))) H locs ls h hP hD hS (lv_sub hl [1, 2, 0] rfl)
  have B455 : ∀ (v1 : Int32) (v2 : Int32) (v3 : Int32) (x_aM57 : Nat → Int32) (x_aM58 : Nat → Int32) (x_aM59 : Nat → Int32) (x_aM60 : Nat → Int32) (k410 : Int32 → (Nat → Int32) → (Nat → Int32) → Option ((Nat → Int32) × (Nat → Int32) × (Nat → Int32) × (Nat → Int32))) (hk410 : ∀ (v2' : Int32) (x_aM59' : Nat → Int32) (x_aM60' : Nat → Int32) (H : Heap) (locs : List Loc) (ls : Array Slot), k410 v2' x_aM59' x_aM60' = some q → va_P (dC, dI) vwCl (zzM ad cy iM (us aM [(57, x_aM57), (58, x_aM58), (59, x_aM59'), (60, x_aM60')])) H → va_D A (zzM ad cy iM (us aM [(57, x_aM57), (58, x_aM58), (59, x_aM59'), (60, x_aM60')])) → va_S A s.heap H locs → lv_has ls 5 [(0, .ref (ad 0)), (1, .int v1), (2, .int v2')] → W p l e ({ frames := 1, cells := 0, slots := 0, locals := 24 } : Room) s m args below meth c H locs 0 0 QQ (F0 m 410 ls [])) (H : Heap) (locs : List Loc) (ls : Array Slot), f_M_findTruths_455 N (iM 14) (iM 36) (aM 8) (aM 9) (aM 10) (aM 11) (aM 13) (aM 30) (aM 32) (aM 34) (aM 35) (aM 57) (aM 58) (aM 59) (aM 60) k410 v1 v2 v3 x_aM57 x_aM58 x_aM59 x_aM60 = some q → va_P (dC, dI) vwCl (zzM ad cy iM (us aM [(57, x_aM57), (58, x_aM58), (59, x_aM59), (60, x_aM60)])) H → va_D A (zzM ad cy iM (us aM [(57, x_aM57), (58, x_aM58), (59, x_aM59), (60, x_aM60)])) → va_S A s.heap H locs → lv_has ls 5 [(0, .ref (ad 0)), (1, .int v1), (2, .int v2), (3, .int v3)] → W p l e ({ frames := 1, cells := 0, slots := 0, locals := 24 } : Room) s m args below meth c H locs 0 0 QQ (F0 m 455 ls []) := by
    intro v1 v2 v3 x_aM57 x_aM58 x_aM59 x_aM60 k410 hk410 H locs ls h hP hD hS hl
    unfold f_M_findTruths_455 at h
    refine lv_aload_n hx hb dX8_findTruths_455 rfl (lv_at hl 0 rfl) ?_
    refine va_get (D := (dC, dI)) (ci := 8) (v := .ref (ad 32)) (C := RX8) (T := TX8) (N := 78) hx hb hts ki8 hown hK hP 0 rfl rfl 60 (by decide) kf111 (fun _ h9 => h9) rfl dX8_findTruths_456 ?_
    refine lv_iload_n hx hb dX8_findTruths_459 rfl (lv_at hl 1 rfl) ?_
    refine lv_dup2_11 hx hb dX8_findTruths_460 rfl rfl ?_
    obtain ⟨g_1, h⟩ := g_n h
    refine va_iald (f := x_aM60) hx hb hK hP 32 0 rfl rfl g_1 dX8_findTruths_461 ?_
    refine lv_iload_n hx hb dX8_findTruths_462 rfl (lv_at hl 3 rfl) ?_
    refine lv_iload_n hx hb dX8_findTruths_463 rfl (lv_at hl 1 rfl) ?_
    refine lv_icmp_ne (tgt := 473) hx hb dX8_findTruths_464 (by decide) (fun cz => ?_) (fun cz => ?_)
    · have h := g_f h cz
      refine lv_iconst (v := 0) hx hb dX8_findTruths_473 (by decide) ?_
      exact B474 v1 v2 v1 ((x_aM60 v1.toNatClampNeg)) ((0 : Int32)) x_aM57 x_aM58 x_aM59 x_aM60 k410 hk410 H locs ls h hP hD hS (lv_sub hl [0, 1, 2] rfl)
    · have h := g_t h cz
      refine lv_iconst (v := 1) hx hb dX8_findTruths_467 (by decide) ?_
      refine lv_iload_n hx hb dX8_findTruths_468 rfl (lv_at hl 2 rfl) ?_
      refine lv_ishl hx hb dX8_findTruths_469 ?_
      refine lv_goto (tgt := 474) hx hb dX8_findTruths_470 (by decide) ?_
      exact B474 v1 v2 v1 ((x_aM60 v1.toNatClampNeg)) (((1 : Int32) <<< (v2 &&& 31))) x_aM57 x_aM58 x_aM59 x_aM60 k410 hk410 H locs ls h hP hD hS (lv_sub hl [0, 1, 2] rfl)
  have B443 : ∀ (v1 : Int32) (v2 : Int32) (v3 : Int32) (x_aM57 : Nat → Int32) (x_aM58 : Nat → Int32) (x_aM59 : Nat → Int32) (x_aM60 : Nat → Int32) (k410 : Int32 → (Nat → Int32) → (Nat → Int32) → Option ((Nat → Int32) × (Nat → Int32) × (Nat → Int32) × (Nat → Int32))) (hk410 : ∀ (v2' : Int32) (x_aM59' : Nat → Int32) (x_aM60' : Nat → Int32) (H : Heap) (locs : List Loc) (ls : Array Slot), k410 v2' x_aM59' x_aM60' = some q → va_P (dC, dI) vwCl (zzM ad cy iM (us aM [(57, x_aM57), (58, x_aM58), (59, x_aM59'), (60, x_aM60')])) H → va_D A (zzM ad cy iM (us aM [(57, x_aM57), (58, x_aM58), (59, x_aM59'), (60, x_aM60')])) → va_S A s.heap H locs → lv_has ls 5 [(0, .ref (ad 0)), (1, .int v1), (2, .int v2')] → W p l e ({ frames := 1, cells := 0, slots := 0, locals := 24 } : Room) s m args below meth c H locs 0 0 QQ (F0 m 410 ls [])) (H : Heap) (locs : List Loc) (ls : Array Slot), f_M_findTruths_443 N (iM 14) (iM 36) (aM 8) (aM 9) (aM 10) (aM 11) (aM 13) (aM 30) (aM 32) (aM 34) (aM 35) (aM 57) (aM 58) (aM 59) (aM 60) k410 v1 v2 v3 x_aM57 x_aM58 x_aM59 x_aM60 = some q → va_P (dC, dI) vwCl (zzM ad cy iM (us aM [(57, x_aM57), (58, x_aM58), (59, x_aM59), (60, x_aM60)])) H → va_D A (zzM ad cy iM (us aM [(57, x_aM57), (58, x_aM58), (59, x_aM59), (60, x_aM60)])) → va_S A s.heap H locs → lv_has ls 5 [(0, .ref (ad 0)), (1, .int v1), (2, .int v2), (3, .int v3)] → W p l e ({ frames := 1, cells := 0, slots := 0, locals := 24 } : Room) s m args below meth c H locs 0 0 QQ (F0 m 443 ls []) := by
    intro v1 v2 v3 x_aM57 x_aM58 x_aM59 x_aM60 k410 hk410 H locs ls h hP hD hS hl
    unfold f_M_findTruths_443 at h
    refine lv_aload_n hx hb dX8_findTruths_443 rfl (lv_at hl 0 rfl) ?_
    refine va_get (D := (dC, dI)) (ci := 8) (v := .ref (ad 31)) (C := RX8) (T := TX8) (N := 78) hx hb hts ki8 hown hK hP 0 rfl rfl 59 (by decide) kf108 (fun _ h9 => h9) rfl dX8_findTruths_444 ?_
    refine lv_iload_n hx hb dX8_findTruths_447 rfl (lv_at hl 1 rfl) ?_
    refine lv_dup2_11 hx hb dX8_findTruths_448 rfl rfl ?_
    obtain ⟨g_1, h⟩ := g_n h
    refine va_iald (f := x_aM59) hx hb hK hP 31 0 rfl rfl g_1 dX8_findTruths_449 ?_
    refine lv_iconst (v := 1) hx hb dX8_findTruths_450 (by decide) ?_
    refine lv_iload_n hx hb dX8_findTruths_451 rfl (lv_at hl 2 rfl) ?_
    refine lv_ishl hx hb dX8_findTruths_452 ?_
    refine lv_ior hx hb dX8_findTruths_453 ?_
    refine va_iast (f := x_aM59) hx hb hK hP hD hS 31 0 rfl rfl g_1 dX8_findTruths_454 (fun H locs hP hD hS => ?_)
    have hP : va_P (dC, dI) vwCl (zzM ad cy iM (us aM [(57, x_aM57), (58, x_aM58), (59, (upd x_aM59 v1.toNatClampNeg (((x_aM59 v1.toNatClampNeg) ||| ((1 : Int32) <<< (v2 &&& 31)))))), (60, x_aM60)])) H := Eq.mp (congrArg (fun w => va_P (dC, dI) vwCl w H) (stM_aM59 ad cy iM aM [(57, x_aM57), (58, x_aM58), (59, x_aM59), (60, x_aM60)] ((upd x_aM59 v1.toNatClampNeg (((x_aM59 v1.toNatClampNeg) ||| ((1 : Int32) <<< (v2 &&& 31)))))))) hP
    have hD : va_D A (zzM ad cy iM (us aM [(57, x_aM57), (58, x_aM58), (59, (upd x_aM59 v1.toNatClampNeg (((x_aM59 v1.toNatClampNeg) ||| ((1 : Int32) <<< (v2 &&& 31)))))), (60, x_aM60)])) := Eq.mp (congrArg (fun w => va_D A w) (stM_aM59 ad cy iM aM [(57, x_aM57), (58, x_aM58), (59, x_aM59), (60, x_aM60)] ((upd x_aM59 v1.toNatClampNeg (((x_aM59 v1.toNatClampNeg) ||| ((1 : Int32) <<< (v2 &&& 31)))))))) hD
    exact B455 v1 v2 v3 x_aM57 x_aM58 ((upd x_aM59 v1.toNatClampNeg (((x_aM59 v1.toNatClampNeg) ||| ((1 : Int32) <<< (v2 &&& 31)))))) x_aM60 k410 hk410 H locs ls h hP hD hS (lv_sub hl [0, 1, 2, 3] rfl)
  have B410 : ∀ (n : Nat) (v1 : Int32) (x_aM57 : Nat → Int32) (x_aM58 : Nat → Int32) (k389 : Int32 → (Nat → Int32) → (Nat → Int32) → Option ((Nat → Int32) × (Nat → Int32) × (Nat → Int32) × (Nat → Int32))) (hk389 : ∀ (v1' : Int32) (x_aM59' : Nat → Int32) (x_aM60' : Nat → Int32) (H : Heap) (locs : List Loc) (ls : Array Slot), k389 v1' x_aM59' x_aM60' = some q → va_P (dC, dI) vwCl (zzM ad cy iM (us aM [(57, x_aM57), (58, x_aM58), (59, x_aM59'), (60, x_aM60')])) H → va_D A (zzM ad cy iM (us aM [(57, x_aM57), (58, x_aM58), (59, x_aM59'), (60, x_aM60')])) → va_S A s.heap H locs → lv_has ls 5 [(0, .ref (ad 0)), (1, .int v1')] → W p l e ({ frames := 1, cells := 0, slots := 0, locals := 24 } : Room) s m args below meth c H locs 0 0 QQ (F0 m 389 ls [])) (v2 : Int32) (x_aM59 : Nat → Int32) (x_aM60 : Nat → Int32) (H : Heap) (locs : List Loc) (ls : Array Slot), f_M_findTruths_410 N (iM 14) (iM 36) (aM 8) (aM 9) (aM 10) (aM 11) (aM 13) (aM 30) (aM 32) (aM 34) (aM 35) (aM 57) (aM 58) (aM 59) (aM 60) k389 v1 x_aM57 x_aM58 n v2 x_aM59 x_aM60 = some q → va_P (dC, dI) vwCl (zzM ad cy iM (us aM [(57, x_aM57), (58, x_aM58), (59, x_aM59), (60, x_aM60)])) H → va_D A (zzM ad cy iM (us aM [(57, x_aM57), (58, x_aM58), (59, x_aM59), (60, x_aM60)])) → va_S A s.heap H locs → lv_has ls 5 [(0, .ref (ad 0)), (1, .int v1), (2, .int v2)] → W p l e ({ frames := 1, cells := 0, slots := 0, locals := 24 } : Room) s m args below meth c H locs 0 0 QQ (F0 m 410 ls []) := by
    intro n
    induction n with
    | zero =>
      intro v1 x_aM57 x_aM58 k389 hk389 v2 x_aM59 x_aM60 H locs ls h hP hD hS hl
      rw [f_M_findTruths_410] at h
      cases h
    | succ n ih =>
      intro v1 x_aM57 x_aM58 k389 hk389 v2 x_aM59 x_aM60 H locs ls h hP hD hS hl
      rw [f_M_findTruths_410] at h
      refine lv_iload_n hx hb dX8_findTruths_410 rfl (lv_at hl 2 rfl) ?_
      refine lv_aload_n hx hb dX8_findTruths_411 rfl (lv_at hl 0 rfl) ?_
      refine va_get (D := (dC, dI)) (ci := 8) (v := .int (iM 36)) (C := RX8) (T := TX8) (N := 78) hx hb hts ki8 hown hK hP 0 rfl rfl 36 (by decide) kf353 (fun _ h9 => h9) rfl dX8_findTruths_412 ?_
      refine lv_icmp_ge (tgt := 482) hx hb dX8_findTruths_415 (by decide) (fun cz => ?_) (fun cz => ?_)
      · have h := g_t h cz
        refine lv_iinc (v := (v1 + (1 : Int32))) (lv' := [(1, .int ((v1 + (1 : Int32)))), (0, .ref (ad 0)), (2, .int v2)]) hx hb dX8_findTruths_482 hl (k := 1) rfl rfl (by decide) rfl (fun ls hl => ?_)
        refine lv_goto (tgt := 389) hx hb dX8_findTruths_485 (by decide) ?_
        exact hk389 ((v1 + (1 : Int32))) x_aM59 x_aM60 H locs ls h hP hD hS (lv_sub hl [1, 0] rfl)
      · have h := g_f h cz
        refine lv_aload_n hx hb dX8_findTruths_418 rfl (lv_at hl 0 rfl) ?_
        refine va_get (D := (dC, dI)) (ci := 8) (v := .ref (ad 21)) (C := RX8) (T := TX8) (N := 78) hx hb hts ki8 hown hK hP 0 rfl rfl 32 (by decide) kf73 (fun _ h9 => h9) rfl dX8_findTruths_419 ?_
        refine lv_iload_n hx hb dX8_findTruths_422 rfl (lv_at hl 2 rfl) ?_
        obtain ⟨g_99, h⟩ := g_n h
        refine va_iald (f := (aM 32)) hx hb hK hP 21 0 rfl rfl g_99 dX8_findTruths_423 ?_
        refine lv_istore_n (lv' := [(3, .int (((aM 32) v2.toNatClampNeg))), (0, .ref (ad 0)), (1, .int v1), (2, .int v2)]) hx hb dX8_findTruths_424 rfl hl (by decide) rfl (fun ls hl => ?_)
        refine lv_iload_n hx hb dX8_findTruths_425 rfl (lv_at hl 0 rfl) ?_
        refine lv_if_lt (tgt := 455) hx hb dX8_findTruths_426 (by decide) (fun cz => ?_) (fun cz => ?_)
        · have h := g_t h cz
          exact B455 v1 v2 (((aM 32) v2.toNatClampNeg)) x_aM57 x_aM58 x_aM59 x_aM60 (f_M_findTruths_410 N (iM 14) (iM 36) (aM 8) (aM 9) (aM 10) (aM 11) (aM 13) (aM 30) (aM 32) (aM 34) (aM 35) (aM 57) (aM 58) (aM 59) (aM 60) k389 v1 x_aM57 x_aM58 n) (ih v1 x_aM57 x_aM58 k389 hk389) H locs ls h hP hD hS (lv_sub hl [1, 2, 3, 0] rfl)
        · have h := g_f h cz
          refine lv_iload_n hx hb dX8_findTruths_429 rfl (lv_at hl 0 rfl) ?_
          refine lv_iload_n hx hb dX8_findTruths_430 rfl (lv_at hl 2 rfl) ?_
          refine lv_icmp_eq (tgt := 443) hx hb dX8_findTruths_431 (by decide) (fun cz => ?_) (fun cz => ?_)
          · have h := g_t h cz
            exact B443 v1 v2 (((aM 32) v2.toNatClampNeg)) x_aM57 x_aM58 x_aM59 x_aM60 (f_M_findTruths_410 N (iM 14) (iM 36) (aM 8) (aM 9) (aM 10) (aM 11) (aM 13) (aM 30) (aM 32) (aM 34) (aM 35) (aM 57) (aM 58) (aM 59) (aM 60) k389 v1 x_aM57 x_aM58 n) (ih v1 x_aM57 x_aM58 k389 hk389) H locs ls h hP hD hS (lv_sub hl [1, 2, 3, 0] rfl)
          · have h := g_f h cz
            refine lv_aload_n hx hb dX8_findTruths_434 rfl (lv_at hl 1 rfl) ?_
            refine lv_iload_n hx hb dX8_findTruths_435 rfl (lv_at hl 2 rfl) ?_
            refine lv_iload_n hx hb dX8_findTruths_436 rfl (lv_at hl 0 rfl) ?_
            obtain ⟨q437, e437, h⟩ := g_b h
            refine callVis (cc := cX8_findTruths) (w1 := zzM ad cy iM (us aM [(57, x_aM57), (58, x_aM58), (59, x_aM59), (60, x_aM60)])) (As := [.int v1, .int (((aM 32) v2.toNatClampNeg))]) (rest := []) ⟨hx, hb, hml, hown, hts⟩ (c_M_isBelow l dC dI cy ad H.size N v1 (((aM 32) v2.toNatClampNeg)) iM ((us aM [(57, x_aM57), (58, x_aM58), (59, x_aM59), (60, x_aM60)])) q437 e437) (cwV 2 hts (goodV m_ml_X8_371 m_im_X8_isBelow m_se_X8_isBelow m_in_X8 m_cd_X8_isBelow) rfl rfl rfl (by decide +kernel) ⟨Nat.le_of_ble_eq_true rfl, Nat.le_of_ble_eq_true rfl⟩) hN hK hP hD hS hA rfl 0 rfl rfl rfl hl.1 rfl (Nat.le_of_ble_eq_true rfl) dX8_findTruths_437 ⟨Nat.zero_le _, Nat.zero_le _⟩ (fun H locs hP hD hS => ?_)
            refine lv_if_eq (tgt := 455) hx hb dX8_findTruths_440 (by decide) (fun cz => ?_) (fun cz => ?_)
            · have h := g_t h cz
              exact B455 v1 v2 (((aM 32) v2.toNatClampNeg)) x_aM57 x_aM58 x_aM59 x_aM60 (f_M_findTruths_410 N (iM 14) (iM 36) (aM 8) (aM 9) (aM 10) (aM 11) (aM 13) (aM 30) (aM 32) (aM 34) (aM 35) (aM 57) (aM 58) (aM 59) (aM 60) k389 v1 x_aM57 x_aM58 n) (ih v1 x_aM57 x_aM58 k389 hk389) H locs ls h hP hD hS (lv_sub hl [1, 2, 3, 0] rfl)
            · have h := g_f h cz
              exact B443 v1 v2 (((aM 32) v2.toNatClampNeg)) x_aM57 x_aM58 x_aM59 x_aM60 (f_M_findTruths_410 N (iM 14) (iM 36) (aM 8) (aM 9) (aM 10) (aM 11) (aM 13) (aM 30) (aM 32) (aM 34) (aM 35) (aM 57) (aM 58) (aM 59) (aM 60) k389 v1 x_aM57 x_aM58 n) (ih v1 x_aM57 x_aM58 k389 hk389) H locs ls h hP hD hS (lv_sub hl [1, 2, 3, 0] rfl)
  have B389 : ∀ (n : Nat) (x_aM57 : Nat → Int32) (x_aM58 : Nat → Int32) (v1 : Int32) (x_aM59 : Nat → Int32) (x_aM60 : Nat → Int32) (H : Heap) (locs : List Loc) (ls : Array Slot), f_M_findTruths_389 N (iM 14) (iM 36) (aM 8) (aM 9) (aM 10) (aM 11) (aM 13) (aM 30) (aM 32) (aM 34) (aM 35) (aM 57) (aM 58) (aM 59) (aM 60) x_aM57 x_aM58 n v1 x_aM59 x_aM60 = some q → va_P (dC, dI) vwCl (zzM ad cy iM (us aM [(57, x_aM57), (58, x_aM58), (59, x_aM59), (60, x_aM60)])) H → va_D A (zzM ad cy iM (us aM [(57, x_aM57), (58, x_aM58), (59, x_aM59), (60, x_aM60)])) → va_S A s.heap H locs → lv_has ls 5 [(0, .ref (ad 0)), (1, .int v1)] → W p l e ({ frames := 1, cells := 0, slots := 0, locals := 24 } : Room) s m args below meth c H locs 0 0 QQ (F0 m 389 ls []) := by
    intro n
    induction n with
    | zero =>
      intro x_aM57 x_aM58 v1 x_aM59 x_aM60 H locs ls h hP hD hS hl
      rw [f_M_findTruths_389] at h
      cases h
    | succ n ih =>
      intro x_aM57 x_aM58 v1 x_aM59 x_aM60 H locs ls h hP hD hS hl
      rw [f_M_findTruths_389] at h
      refine lv_iload_n hx hb dX8_findTruths_389 rfl (lv_at hl 1 rfl) ?_
      refine lv_iconst (v := 3) hx hb dX8_findTruths_390 (by decide) ?_
      refine lv_icmp_ge (tgt := 488) hx hb dX8_findTruths_391 (by decide) (fun cz => ?_) (fun cz => ?_)
      · have h := g_t h cz
        have h' := Option.some.inj h
        rw [← hQQ]
        exact W.vret hx hb hr (fun t ht hW => ⟨⟨(), rfl, trivial, by rw [← hWQ, ← h', ht]; exact hP, va_K.moved hW.alike hK⟩, hS.F ht⟩) hS.2.2 dX8_findTruths_488
      · have h := g_f h cz
        refine lv_aload_n hx hb dX8_findTruths_394 rfl (lv_at hl 0 rfl) ?_
        refine va_get (D := (dC, dI)) (ci := 8) (v := .ref (ad 31)) (C := RX8) (T := TX8) (N := 78) hx hb hts ki8 hown hK hP 0 rfl rfl 59 (by decide) kf108 (fun _ h9 => h9) rfl dX8_findTruths_395 ?_
        refine lv_iload_n hx hb dX8_findTruths_398 rfl (lv_at hl 1 rfl) ?_
        refine lv_iconst (v := 0) hx hb dX8_findTruths_399 (by decide) ?_
        obtain ⟨g_1, h⟩ := g_n h
        refine va_iast (f := x_aM59) hx hb hK hP hD hS 31 0 rfl rfl g_1 dX8_findTruths_400 (fun H locs hP hD hS => ?_)
        have hP : va_P (dC, dI) vwCl (zzM ad cy iM (us aM [(57, x_aM57), (58, x_aM58), (59, (upd x_aM59 v1.toNatClampNeg ((0 : Int32)))), (60, x_aM60)])) H := Eq.mp (congrArg (fun w => va_P (dC, dI) vwCl w H) (stM_aM59 ad cy iM aM [(57, x_aM57), (58, x_aM58), (59, x_aM59), (60, x_aM60)] ((upd x_aM59 v1.toNatClampNeg ((0 : Int32)))))) hP
        have hD : va_D A (zzM ad cy iM (us aM [(57, x_aM57), (58, x_aM58), (59, (upd x_aM59 v1.toNatClampNeg ((0 : Int32)))), (60, x_aM60)])) := Eq.mp (congrArg (fun w => va_D A w) (stM_aM59 ad cy iM aM [(57, x_aM57), (58, x_aM58), (59, x_aM59), (60, x_aM60)] ((upd x_aM59 v1.toNatClampNeg ((0 : Int32)))))) hD
        refine lv_aload_n hx hb dX8_findTruths_401 rfl (lv_at hl 0 rfl) ?_
        refine va_get (D := (dC, dI)) (ci := 8) (v := .ref (ad 32)) (C := RX8) (T := TX8) (N := 78) hx hb hts ki8 hown hK hP 0 rfl rfl 60 (by decide) kf111 (fun _ h9 => h9) rfl dX8_findTruths_402 ?_
        refine lv_iload_n hx hb dX8_findTruths_405 rfl (lv_at hl 1 rfl) ?_
        refine lv_iconst (v := 0) hx hb dX8_findTruths_406 (by decide) ?_
        refine va_iast (f := x_aM60) hx hb hK hP hD hS 32 0 rfl rfl g_1 dX8_findTruths_407 (fun H locs hP hD hS => ?_)
        have hP : va_P (dC, dI) vwCl (zzM ad cy iM (us aM [(57, x_aM57), (58, x_aM58), (59, (upd x_aM59 v1.toNatClampNeg ((0 : Int32)))), (60, (upd x_aM60 v1.toNatClampNeg ((0 : Int32))))])) H := Eq.mp (congrArg (fun w => va_P (dC, dI) vwCl w H) (stM_aM60 ad cy iM aM [(57, x_aM57), (58, x_aM58), (59, (upd x_aM59 v1.toNatClampNeg ((0 : Int32)))), (60, x_aM60)] ((upd x_aM60 v1.toNatClampNeg ((0 : Int32)))))) hP
        have hD : va_D A (zzM ad cy iM (us aM [(57, x_aM57), (58, x_aM58), (59, (upd x_aM59 v1.toNatClampNeg ((0 : Int32)))), (60, (upd x_aM60 v1.toNatClampNeg ((0 : Int32))))])) := Eq.mp (congrArg (fun w => va_D A w) (stM_aM60 ad cy iM aM [(57, x_aM57), (58, x_aM58), (59, (upd x_aM59 v1.toNatClampNeg ((0 : Int32)))), (60, x_aM60)] ((upd x_aM60 v1.toNatClampNeg ((0 : Int32)))))) hD
        refine lv_iconst (v := 0) hx hb dX8_findTruths_408 (by decide) ?_
        refine lv_istore_n (lv' := [(2, .int ((0 : Int32))), (0, .ref (ad 0)), (1, .int v1)]) hx hb dX8_findTruths_409 rfl hl (by decide) rfl (fun ls hl => ?_)
        exact B410 N v1 x_aM57 x_aM58 (f_M_findTruths_389 N (iM 14) (iM 36) (aM 8) (aM 9) (aM 10) (aM 11) (aM 13) (aM 30) (aM 32) (aM 34) (aM 35) (aM 57) (aM 58) (aM 59) (aM 60) x_aM57 x_aM58 n) (ih x_aM57 x_aM58) ((0 : Int32)) ((upd x_aM59 v1.toNatClampNeg ((0 : Int32)))) ((upd x_aM60 v1.toNatClampNeg ((0 : Int32)))) H locs ls h hP hD hS (lv_sub hl [1, 2, 0] rfl)
  have B2 : ∀ (n : Nat) (v1 : Int32) (x_aM57 : Nat → Int32) (x_aM58 : Nat → Int32) (H : Heap) (locs : List Loc) (ls : Array Slot), f_M_findTruths_2 N (iM 14) (iM 36) (aM 8) (aM 9) (aM 10) (aM 11) (aM 13) (aM 30) (aM 32) (aM 34) (aM 35) (aM 57) (aM 58) (aM 59) (aM 60) n v1 x_aM57 x_aM58 = some q → va_P (dC, dI) vwCl (zzM ad cy iM (us aM [(57, x_aM57), (58, x_aM58)])) H → va_D A (zzM ad cy iM (us aM [(57, x_aM57), (58, x_aM58)])) → va_S A s.heap H locs → lv_has ls 5 [(0, .ref (ad 0)), (1, .int v1)] → W p l e ({ frames := 1, cells := 0, slots := 0, locals := 24 } : Room) s m args below meth c H locs 0 0 QQ (F0 m 2 ls []) := by
    intro n
    induction n with
    | zero =>
      intro v1 x_aM57 x_aM58 H locs ls h hP hD hS hl
      rw [f_M_findTruths_2] at h
      cases h
    | succ n ih =>
      intro v1 x_aM57 x_aM58 H locs ls h hP hD hS hl
      rw [f_M_findTruths_2] at h
      refine lv_iload_n hx hb dX8_findTruths_2 rfl (lv_at hl 1 rfl) ?_
      refine lv_aload_n hx hb dX8_findTruths_3 rfl (lv_at hl 0 rfl) ?_
      obtain ⟨q4, e4, h⟩ := g_b h
      refine callVis (cc := cX8_findTruths) (w1 := zzM ad cy iM (us aM [(57, x_aM57), (58, x_aM58)])) (As := []) (rest := [.int v1]) ⟨hx, hb, hml, hown, hts⟩ (c_M_types l dC dI cy ad H.size iM ((us aM [(57, x_aM57), (58, x_aM58)])) q4 e4) (cwV 0 hts (goodV m_ml_X8_368 m_im_X8_types m_se_X8_types m_in_X8 m_cd_X8_types) rfl rfl rfl (by decide +kernel) ⟨Nat.le_of_ble_eq_true rfl, Nat.le_of_ble_eq_true rfl⟩) hN hK hP hD hS hA rfl 0 rfl rfl rfl hl.1 rfl (Nat.le_of_ble_eq_true rfl) dX8_findTruths_4 ⟨Nat.zero_le _, Nat.zero_le _⟩ (fun H locs hP hD hS => ?_)
      refine lv_icmp_ge (tgt := 387) hx hb dX8_findTruths_7 (by decide) (fun cz => ?_) (fun cz => ?_)
      · have h := g_t h cz
        refine lv_iconst (v := 0) hx hb dX8_findTruths_387 (by decide) ?_
        refine lv_istore_n (lv' := [(1, .int ((0 : Int32))), (0, .ref (ad 0))]) hx hb dX8_findTruths_388 rfl hl (by decide) rfl (fun ls hl => ?_)
        exact B389 N x_aM57 x_aM58 ((0 : Int32)) (aM 59) (aM 60) H locs ls h hP hD hS (lv_sub hl [1, 0] rfl)
      · have h := g_f h cz
        refine lv_iconst (v := 0) hx hb dX8_findTruths_10 (by decide) ?_
        refine lv_istore_n (lv' := [(2, .int ((0 : Int32))), (0, .ref (ad 0)), (1, .int v1)]) hx hb dX8_findTruths_11 rfl hl (by decide) rfl (fun ls hl => ?_)
        exact B12 N v1 x_aM58 (f_M_findTruths_2 N (iM 14) (iM 36) (aM 8) (aM 9) (aM 10) (aM 11) (aM 13) (aM 30) (aM 32) (aM 34) (aM 35) (aM 57) (aM 58) (aM 59) (aM 60) n) ih ((0 : Int32)) x_aM57 H locs ls h hP hD hS (lv_sub hl [1, 2, 0] rfl)
  intro H locs hP hD hS
  unfold f_M_findTruths at h
  refine lv_iconst (v := 0) hx hb dX8_findTruths_0 (by decide) ?_
  refine lv_istore_n (lv' := [(1, .int ((0 : Int32))), (0, .ref (ad 0))]) hx hb dX8_findTruths_1 rfl hl (by decide) rfl (fun ls hl => ?_)
  exact B2 N ((0 : Int32)) (aM 57) (aM 58) H locs ls h hP hD hS (lv_sub hl [1, 0] rfl)
