def f_K_gatherAtoms_87 (N : Nat) (aB12 : Nat → Int32) (iC9 : Int32) (aC5 : Nat → Int32) (iK7 : Int32) (aK5 : Nat → Int32) (aK6 : Nat → Int32) (k28 : Int32 → (Nat → Int32) → (Nat → Int32) → Option (Int32 × (Nat → Int32) × (Nat → Int32))) (v1 : Int32) (v2 : Int32) (x_iK7 : Int32) (x_aK5 : Nat → Int32) (x_aK6 : Nat → Int32) : Option (Int32 × (Nat → Int32) × (Nat → Int32)) := if v1 < 0 ∨ 3 ≤ v1.toNatClampNeg then none else (k28 ((v2 + (1 : Int32))) x_aK5 ((upd x_aK6 v1.toNatClampNeg (((x_aK6 v1.toNatClampNeg) ||| ((1 : Int32) <<< (v2 &&& 31)))))))
def f_K_gatherAtoms_65 (N : Nat) (aB12 : Nat → Int32) (iC9 : Int32) (aC5 : Nat → Int32) (iK7 : Int32) (aK5 : Nat → Int32) (aK6 : Nat → Int32) (k28 : Int32 → (Nat → Int32) → (Nat → Int32) → Option (Int32 × (Nat → Int32) × (Nat → Int32))) (v1 : Int32) (v2 : Int32) (v3 : Int32) (x_iK7 : Int32) (x_aK5 : Nat → Int32) (x_aK6 : Nat → Int32) : Option (Int32 × (Nat → Int32) × (Nat → Int32)) := if v3 = v1 then (f_K_gatherAtoms_87 N aB12 iC9 aC5 iK7 aK5 aK6 k28 v1 v2 x_iK7 x_aK5 x_aK6) else (if v3 = (-1 : Int32) then (k28 ((v2 + (1 : Int32))) x_aK5 x_aK6) else ((f_B_isRoleUnder v1 v3 aB12).bind fun q81 => (if q81 = 0 then (k28 ((v2 + (1 : Int32))) x_aK5 x_aK6) else (f_K_gatherAtoms_87 N aB12 iC9 aC5 iK7 aK5 aK6 k28 v1 v2 x_iK7 x_aK5 x_aK6))))
def f_K_gatherAtoms_28 (N : Nat) (aB12 : Nat → Int32) (iC9 : Int32) (aC5 : Nat → Int32) (iK7 : Int32) (aK5 : Nat → Int32) (aK6 : Nat → Int32) (k7 : Int32 → Int32 → (Nat → Int32) → (Nat → Int32) → Option (Int32 × (Nat → Int32) × (Nat → Int32))) (v1 : Int32) (x_iK7 : Int32) : Nat → Int32 → (Nat → Int32) → (Nat → Int32) → Option (Int32 × (Nat → Int32) × (Nat → Int32))
  | 0, _, _, _ => none
  | n + 1, v2, x_aK5, x_aK6 => if iC9 ≤ v2 then (if v1 < 0 ∨ 3 ≤ v1.toNatClampNeg then none else (k7 ((v1 + (1 : Int32))) ((x_iK7 ||| (x_aK5 v1.toNatClampNeg))) x_aK5 x_aK6)) else ((f_C_roleOfAtom v2 iC9 aC5).bind fun q44 => (if q44 = v1 then (if v1 < 0 ∨ 3 ≤ v1.toNatClampNeg then none else (f_K_gatherAtoms_65 N aB12 iC9 aC5 iK7 aK5 aK6 (f_K_gatherAtoms_28 N aB12 iC9 aC5 iK7 aK5 aK6 k7 v1 x_iK7 n) v1 v2 q44 x_iK7 ((upd x_aK5 v1.toNatClampNeg (((x_aK5 v1.toNatClampNeg) ||| ((1 : Int32) <<< (v2 &&& 31)))))) x_aK6)) else (f_K_gatherAtoms_65 N aB12 iC9 aC5 iK7 aK5 aK6 (f_K_gatherAtoms_28 N aB12 iC9 aC5 iK7 aK5 aK6 k7 v1 x_iK7 n) v1 v2 q44 x_iK7 x_aK5 x_aK6)))
def f_K_gatherAtoms_7 (N : Nat) (aB12 : Nat → Int32) (iC9 : Int32) (aC5 : Nat → Int32) (iK7 : Int32) (aK5 : Nat → Int32) (aK6 : Nat → Int32)  : Nat → Int32 → Int32 → (Nat → Int32) → (Nat → Int32) → Option (Int32 × (Nat → Int32) × (Nat → Int32))
  | 0, _, _, _, _ => none
  | n + 1, v1, x_iK7, x_aK5, x_aK6 => if (3 : Int32) ≤ v1 then (some (x_iK7, x_aK5, x_aK6)) else (if v1 < 0 ∨ 3 ≤ v1.toNatClampNeg then none else (f_K_gatherAtoms_28 N aB12 iC9 aC5 iK7 aK5 aK6 (f_K_gatherAtoms_7 N aB12 iC9 aC5 iK7 aK5 aK6 n) v1 x_iK7 N ((0 : Int32)) ((upd x_aK5 v1.toNatClampNeg ((0 : Int32)))) ((upd x_aK6 v1.toNatClampNeg ((0 : Int32))))))
def f_K_gatherAtoms (N : Nat) (aB12 : Nat → Int32) (iC9 : Int32) (aC5 : Nat → Int32) (iK7 : Int32) (aK5 : Nat → Int32) (aK6 : Nat → Int32) : Option (Int32 × (Nat → Int32) × (Nat → Int32)) := f_K_gatherAtoms_7 N aB12 iC9 aC5 iK7 aK5 aK6 N ((0 : Int32)) ((0 : Int32)) aK5 aK6
set_option maxHeartbeats 8000000 in
set_option maxRecDepth 100000 in
theorem c_K_gatherAtoms (l : Launch) (dC : Nat → ClassId) (dI : Nat → Nat → Nat) (cy : Nat → ClassId) (ad : Nat → Nat) (sz : Nat) (N : Nat) (iK : Nat → Int32) (lK : Nat → Nat → Int64) (aK : Nat → Nat → Int32) (iB : Nat → Int32) (lB : Nat → Nat → Int64) (aB : Nat → Nat → Int32) (iC : Nat → Int32) (aC : Nat → Nat → Int32) (q : Int32 × (Nat → Int32) × (Nat → Int32)) (h : f_K_gatherAtoms N (aB 12) (iC 9) (aC 5) (iK 7) (aK 5) (aK 6) = some q) : Met l yX2_gatherAtoms wsX2_gatherAtoms ({ frames := 2, cells := 0, slots := 0, locals := 43 } : Room) (cP (dC, dI) cy [.ref (ad 0)] (zzK ad cy (ad 11) (ad 18) iK lK aK iB lB aB iC aC) sz) (cQv (dC, dI) cy (zzK ad cy (ad 11) (ad 18) (us iK [(7, q.1)]) lK (us aK [(5, q.2.1), (6, q.2.2)]) iB lB aB iC aC) (va_A (zzK ad cy (ad 11) (ad 18) iK lK aK iB lB aB iC aC) sz)) 0 0 (va_A (zzK ad cy (ad 11) (ad 18) iK lK aK iB lB aB iC aC) sz) := by
  refine Met.ofW (cc := cX2_gatherAtoms) (maxL := 4) (ret := none) (by decide) rfl ?_
  intro p e s m args below meth c s₁ B hml hv
  obtain ⟨hav, hsz, hP, hK, hD0, hN⟩ := hv
  have hx := B.exec
  have hb := B.bytes
  have hr := B.returns
  have hts := atoms_spec (ws := wsX2_gatherAtoms) B.pre
  have hown : s.vm.findClass RX2 = some m.cls := findClass_of_methodNamed B.named
  have hlocks := B.notSynchronized
  subst hsz
  have hD := hD0.self (sz := s.heap.size)
  generalize hAe : va_A (zzK ad cy (ad 11) (ad 18) iK lK aK iB lB aB iC aC) s.heap.size = A at hD ⊢
  have hA : ∀ q : Nat, s.heap.size ≤ q → A q := fun q h => by rw [← hAe]; exact Or.inr h
  have hS : va_S A s.heap s.heap [] := va_S.rf
  generalize hWQ : (zzK ad cy (ad 11) (ad 18) (us iK [(7, q.1)]) lK (us aK [(5, q.2.1), (6, q.2.2)]) iB lB aB iC aC) = WQ
  generalize hQQ : MQ below (cQv (dC, dI) cy WQ A) args s 0 0 A = QQ
  have hl := lv_entry ([.ref (ad 0)] : List Value) (n := 4) (Nat.le_of_ble_eq_true rfl)
  have hfr := lg_entry_eq m ([.ref (ad 0)] : List Value) 4
  rw [← hav] at hfr
  rw [hfr]
  clear hfr hav
  generalize (lg_sl ([.ref (ad 0)] : List Value) ++ List.replicate (4 - (lg_sl ([.ref (ad 0)] : List Value)).length) Slot.unset).toArray = ls at hl ⊢
  have hl : lv_has ls 4 [(0, .ref (ad 0))] := hl
  have kf22 := hts _ (List.mem_cons_of_mem _ m_fl_X2_22)
  have ki2 := (fun w h => List.mem_cons_of_mem _ (i_X2 w h) : ∀ w ∈ u_ws RX2 TX2 15, w ∈ wsX2_gatherAtoms)
  have kf44 := hts _ (List.mem_cons_of_mem _ m_fl_X2_44)
  have kf54 := hts _ (List.mem_cons_of_mem _ m_fl_X2_54)
  have kf55 := hts _ (List.mem_cons_of_mem _ m_fl_X2_55)
  have ki1 := (fun w h => List.mem_cons_of_mem _ (i_X1 w h) : ∀ w ∈ u_ws RX1 TX1 10, w ∈ wsX2_gatherAtoms)
  have kf144 := hts _ (List.mem_cons_of_mem _ m_fl_X2_144)
  have kf18 := hts _ (List.mem_cons_of_mem _ m_fl_X2_18)
  refine (?_ : ∀ (H : Heap) (locs : List Loc), va_P (dC, dI) vwCl (zzK ad cy (ad 11) (ad 18) iK lK aK iB lB aB iC aC) H → va_D A (zzK ad cy (ad 11) (ad 18) iK lK aK iB lB aB iC aC) → va_S A s.heap H locs → W p l e ({ frames := 2, cells := 0, slots := 0, locals := 43 } : Room) s m args below meth c H locs 0 0 QQ (F0 m 0 ls [])) s.heap [] hP hD hS
  clear hP hD hS
  have B87 : ∀ (v1 : Int32) (v2 : Int32) (x_iK7 : Int32) (x_aK5 : Nat → Int32) (x_aK6 : Nat → Int32) (k28 : Int32 → (Nat → Int32) → (Nat → Int32) → Option (Int32 × (Nat → Int32) × (Nat → Int32))) (hk28 : ∀ (v2' : Int32) (x_aK5' : Nat → Int32) (x_aK6' : Nat → Int32) (H : Heap) (locs : List Loc) (ls : Array Slot), k28 v2' x_aK5' x_aK6' = some q → va_P (dC, dI) vwCl (zzK ad cy (ad 11) (ad 18) (us iK [(7, x_iK7)]) lK (us aK [(5, x_aK5'), (6, x_aK6')]) iB lB aB iC aC) H → va_D A (zzK ad cy (ad 11) (ad 18) (us iK [(7, x_iK7)]) lK (us aK [(5, x_aK5'), (6, x_aK6')]) iB lB aB iC aC) → va_S A s.heap H locs → lv_has ls 4 [(0, .ref (ad 0)), (1, .int v1), (2, .int v2')] → W p l e ({ frames := 2, cells := 0, slots := 0, locals := 43 } : Room) s m args below meth c H locs 0 0 QQ (F0 m 28 ls [])) (H : Heap) (locs : List Loc) (ls : Array Slot), f_K_gatherAtoms_87 N (aB 12) (iC 9) (aC 5) (iK 7) (aK 5) (aK 6) k28 v1 v2 x_iK7 x_aK5 x_aK6 = some q → va_P (dC, dI) vwCl (zzK ad cy (ad 11) (ad 18) (us iK [(7, x_iK7)]) lK (us aK [(5, x_aK5), (6, x_aK6)]) iB lB aB iC aC) H → va_D A (zzK ad cy (ad 11) (ad 18) (us iK [(7, x_iK7)]) lK (us aK [(5, x_aK5), (6, x_aK6)]) iB lB aB iC aC) → va_S A s.heap H locs → lv_has ls 4 [(0, .ref (ad 0)), (1, .int v1), (2, .int v2)] → W p l e ({ frames := 2, cells := 0, slots := 0, locals := 43 } : Room) s m args below meth c H locs 0 0 QQ (F0 m 87 ls []) := by
    intro v1 v2 x_iK7 x_aK5 x_aK6 k28 hk28 H locs ls h hP hD hS hl
    unfold f_K_gatherAtoms_87 at h
    refine lv_aload_n hx hb dX2_gatherAtoms_87 rfl (lv_at hl 0 rfl) ?_
    refine va_get (D := (dC, dI)) (ci := 2) (v := .ref (ad 4)) (C := RX2) (T := TX2) (N := 15) hx hb hts ki2 hown hK hP 0 rfl rfl 6 (by decide) kf22 (fun _ h9 => h9) rfl dX2_gatherAtoms_88 ?_
    refine lv_iload_n hx hb dX2_gatherAtoms_91 rfl (lv_at hl 1 rfl) ?_
    refine lv_dup2_11 hx hb dX2_gatherAtoms_92 rfl rfl ?_
    obtain ⟨g_1, h⟩ := g_n h
    refine va_iald (f := x_aK6) hx hb hK hP 4 0 rfl rfl g_1 dX2_gatherAtoms_93 ?_
    refine lv_iconst (v := 1) hx hb dX2_gatherAtoms_94 (by decide) ?_
    refine lv_iload_n hx hb dX2_gatherAtoms_95 rfl (lv_at hl 2 rfl) ?_
    refine lv_ishl hx hb dX2_gatherAtoms_96 ?_
    refine lv_ior hx hb dX2_gatherAtoms_97 ?_
    refine va_iast (f := x_aK6) hx hb hK hP hD hS 4 0 rfl rfl g_1 dX2_gatherAtoms_98 (fun H locs hP hD hS => ?_)
    have hP : va_P (dC, dI) vwCl (zzK ad cy (ad 11) (ad 18) (us iK [(7, x_iK7)]) lK (us aK [(5, x_aK5), (6, (upd x_aK6 v1.toNatClampNeg (((x_aK6 v1.toNatClampNeg) ||| ((1 : Int32) <<< (v2 &&& 31))))))]) iB lB aB iC aC) H := Eq.mp (congrArg (fun w => va_P (dC, dI) vwCl w H) (stK_aK6 ad cy (ad 11) (ad 18) (us iK [(7, x_iK7)]) lK aK iB lB aB iC aC [(5, x_aK5), (6, x_aK6)] ((upd x_aK6 v1.toNatClampNeg (((x_aK6 v1.toNatClampNeg) ||| ((1 : Int32) <<< (v2 &&& 31)))))))) hP
    have hD : va_D A (zzK ad cy (ad 11) (ad 18) (us iK [(7, x_iK7)]) lK (us aK [(5, x_aK5), (6, (upd x_aK6 v1.toNatClampNeg (((x_aK6 v1.toNatClampNeg) ||| ((1 : Int32) <<< (v2 &&& 31))))))]) iB lB aB iC aC) := Eq.mp (congrArg (fun w => va_D A w) (stK_aK6 ad cy (ad 11) (ad 18) (us iK [(7, x_iK7)]) lK aK iB lB aB iC aC [(5, x_aK5), (6, x_aK6)] ((upd x_aK6 v1.toNatClampNeg (((x_aK6 v1.toNatClampNeg) ||| ((1 : Int32) <<< (v2 &&& 31)))))))) hD
    refine lv_iinc (v := (v2 + (1 : Int32))) (lv' := [(2, .int ((v2 + (1 : Int32)))), (0, .ref (ad 0)), (1, .int v1)]) hx hb dX2_gatherAtoms_99 hl (k := 2) rfl rfl (by decide) rfl (fun ls hl => ?_)
    refine lv_goto (tgt := 28) hx hb dX2_gatherAtoms_102 (by decide) ?_
    exact hk28 ((v2 + (1 : Int32))) x_aK5 ((upd x_aK6 v1.toNatClampNeg (((x_aK6 v1.toNatClampNeg) ||| ((1 : Int32) <<< (v2 &&& 31)))))) H locs ls h hP hD hS (lv_sub hl [1, 2, 0] rfl)
  have B65 : ∀ (v1 : Int32) (v2 : Int32) (v3 : Int32) (x_iK7 : Int32) (x_aK5 : Nat → Int32) (x_aK6 : Nat → Int32) (k28 : Int32 → (Nat → Int32) → (Nat → Int32) → Option (Int32 × (Nat → Int32) × (Nat → Int32))) (hk28 : ∀ (v2' : Int32) (x_aK5' : Nat → Int32) (x_aK6' : Nat → Int32) (H : Heap) (locs : List Loc) (ls : Array Slot), k28 v2' x_aK5' x_aK6' = some q → va_P (dC, dI) vwCl (zzK ad cy (ad 11) (ad 18) (us iK [(7, x_iK7)]) lK (us aK [(5, x_aK5'), (6, x_aK6')]) iB lB aB iC aC) H → va_D A (zzK ad cy (ad 11) (ad 18) (us iK [(7, x_iK7)]) lK (us aK [(5, x_aK5'), (6, x_aK6')]) iB lB aB iC aC) → va_S A s.heap H locs → lv_has ls 4 [(0, .ref (ad 0)), (1, .int v1), (2, .int v2')] → W p l e ({ frames := 2, cells := 0, slots := 0, locals := 43 } : Room) s m args below meth c H locs 0 0 QQ (F0 m 28 ls [])) (H : Heap) (locs : List Loc) (ls : Array Slot), f_K_gatherAtoms_65 N (aB 12) (iC 9) (aC 5) (iK 7) (aK 5) (aK 6) k28 v1 v2 v3 x_iK7 x_aK5 x_aK6 = some q → va_P (dC, dI) vwCl (zzK ad cy (ad 11) (ad 18) (us iK [(7, x_iK7)]) lK (us aK [(5, x_aK5), (6, x_aK6)]) iB lB aB iC aC) H → va_D A (zzK ad cy (ad 11) (ad 18) (us iK [(7, x_iK7)]) lK (us aK [(5, x_aK5), (6, x_aK6)]) iB lB aB iC aC) → va_S A s.heap H locs → lv_has ls 4 [(0, .ref (ad 0)), (1, .int v1), (2, .int v2), (3, .int v3)] → W p l e ({ frames := 2, cells := 0, slots := 0, locals := 43 } : Room) s m args below meth c H locs 0 0 QQ (F0 m 65 ls []) := by
    intro v1 v2 v3 x_iK7 x_aK5 x_aK6 k28 hk28 H locs ls h hP hD hS hl
    unfold f_K_gatherAtoms_65 at h
    refine lv_iload_n hx hb dX2_gatherAtoms_65 rfl (lv_at hl 3 rfl) ?_
    refine lv_iload_n hx hb dX2_gatherAtoms_66 rfl (lv_at hl 1 rfl) ?_
    refine lv_icmp_eq (tgt := 87) hx hb dX2_gatherAtoms_67 (by decide) (fun cz => ?_) (fun cz => ?_)
    · have h := g_t h cz
      exact B87 v1 v2 x_iK7 x_aK5 x_aK6 k28 hk28 H locs ls h hP hD hS (lv_sub hl [0, 1, 2] rfl)
    · have h := g_f h cz
      refine lv_iload_n hx hb dX2_gatherAtoms_70 rfl (lv_at hl 3 rfl) ?_
      refine lv_iconst (v := (-1)) hx hb dX2_gatherAtoms_71 (by decide) ?_
      refine lv_icmp_eq (tgt := 99) hx hb dX2_gatherAtoms_72 (by decide) (fun cz => ?_) (fun cz => ?_)
      · have h := g_t h cz
        refine lv_iinc (v := (v2 + (1 : Int32))) (lv' := [(2, .int ((v2 + (1 : Int32)))), (0, .ref (ad 0)), (1, .int v1), (3, .int v3)]) hx hb dX2_gatherAtoms_99 hl (k := 2) rfl rfl (by decide) rfl (fun ls hl => ?_)
        refine lv_goto (tgt := 28) hx hb dX2_gatherAtoms_102 (by decide) ?_
        exact hk28 ((v2 + (1 : Int32))) x_aK5 x_aK6 H locs ls h hP hD hS (lv_sub hl [1, 2, 0] rfl)
      · have h := g_f h cz
        refine lv_aload_n hx hb dX2_gatherAtoms_75 rfl (lv_at hl 0 rfl) ?_
        refine va_get (D := (dC, dI)) (ci := 2) (v := .ref (ad 11)) (C := RX2) (T := TX2) (N := 15) hx hb hts ki2 hown hK hP 0 rfl rfl 0 (by decide) kf44 (fun _ h9 => h9) rfl dX2_gatherAtoms_76 ?_
        refine lv_iload_n hx hb dX2_gatherAtoms_79 rfl (lv_at hl 1 rfl) ?_
        refine lv_iload_n hx hb dX2_gatherAtoms_80 rfl (lv_at hl 3 rfl) ?_
        obtain ⟨q81, e81, h⟩ := g_b h
        refine callVi (cc := cX2_gatherAtoms) (ws' := zzK ad cy (ad 11) (ad 18) (us iK [(7, x_iK7)]) lK (us aK [(5, x_aK5), (6, x_aK6)]) iB lB aB iC aC) (As := [.int v1, .int v3]) (rest := []) ⟨hx, hb, hml, hown, hts⟩ (c_B_isRoleUnder l dC dI cy (fun i => ad (i + 11)) H.size v1 v3 iB lB aB iC aC q81 e81) (cwV 2 hts (goodV m_ml_X2_150 m_im_X0_isRoleUnder m_se_X0_isRoleUnder m_in_X0 m_cd_X0_isRoleUnder) rfl rfl rfl (by decide +kernel) ⟨Nat.le_of_ble_eq_true rfl, Nat.le_of_ble_eq_true rfl⟩) hN hK hP hD hS hA [11, 12, 13, 14, 15, 16, 17, 18, 19, 20, 21, 22, 23, 24, 25, 26] [none, none, none, none, none, none, none, none, none, none, none, some 0, some 1, some 2, some 3, some 4, some 5, some 6, some 7, some 8, some 9, some 10, some 11, some 12, some 13, some 14, some 15] rfl rfl rfl rfl rfl rfl 11 rfl rfl rfl hl.1 rfl (Nat.le_of_ble_eq_true rfl) dX2_gatherAtoms_81 ⟨Nat.zero_le _, Nat.zero_le _⟩ (fun H locs hP hD hS => ?_)
        refine lv_if_eq (tgt := 99) hx hb dX2_gatherAtoms_84 (by decide) (fun cz => ?_) (fun cz => ?_)
        · have h := g_t h cz
          refine lv_iinc (v := (v2 + (1 : Int32))) (lv' := [(2, .int ((v2 + (1 : Int32)))), (0, .ref (ad 0)), (1, .int v1), (3, .int v3)]) hx hb dX2_gatherAtoms_99 hl (k := 2) rfl rfl (by decide) rfl (fun ls hl => ?_)
          refine lv_goto (tgt := 28) hx hb dX2_gatherAtoms_102 (by decide) ?_
          exact hk28 ((v2 + (1 : Int32))) x_aK5 x_aK6 H locs ls h hP hD hS (lv_sub hl [1, 2, 0] rfl)
        · have h := g_f h cz
          exact B87 v1 v2 x_iK7 x_aK5 x_aK6 k28 hk28 H locs ls h hP hD hS (lv_sub hl [0, 1, 2] rfl)
  have B28 : ∀ (n : Nat) (v1 : Int32) (x_iK7 : Int32) (k7 : Int32 → Int32 → (Nat → Int32) → (Nat → Int32) → Option (Int32 × (Nat → Int32) × (Nat → Int32))) (hk7 : ∀ (v1' : Int32) (x_iK7' : Int32) (x_aK5' : Nat → Int32) (x_aK6' : Nat → Int32) (H : Heap) (locs : List Loc) (ls : Array Slot), k7 v1' x_iK7' x_aK5' x_aK6' = some q → va_P (dC, dI) vwCl (zzK ad cy (ad 11) (ad 18) (us iK [(7, x_iK7')]) lK (us aK [(5, x_aK5'), (6, x_aK6')]) iB lB aB iC aC) H → va_D A (zzK ad cy (ad 11) (ad 18) (us iK [(7, x_iK7')]) lK (us aK [(5, x_aK5'), (6, x_aK6')]) iB lB aB iC aC) → va_S A s.heap H locs → lv_has ls 4 [(0, .ref (ad 0)), (1, .int v1')] → W p l e ({ frames := 2, cells := 0, slots := 0, locals := 43 } : Room) s m args below meth c H locs 0 0 QQ (F0 m 7 ls [])) (v2 : Int32) (x_aK5 : Nat → Int32) (x_aK6 : Nat → Int32) (H : Heap) (locs : List Loc) (ls : Array Slot), f_K_gatherAtoms_28 N (aB 12) (iC 9) (aC 5) (iK 7) (aK 5) (aK 6) k7 v1 x_iK7 n v2 x_aK5 x_aK6 = some q → va_P (dC, dI) vwCl (zzK ad cy (ad 11) (ad 18) (us iK [(7, x_iK7)]) lK (us aK [(5, x_aK5), (6, x_aK6)]) iB lB aB iC aC) H → va_D A (zzK ad cy (ad 11) (ad 18) (us iK [(7, x_iK7)]) lK (us aK [(5, x_aK5), (6, x_aK6)]) iB lB aB iC aC) → va_S A s.heap H locs → lv_has ls 4 [(0, .ref (ad 0)), (1, .int v1), (2, .int v2)] → W p l e ({ frames := 2, cells := 0, slots := 0, locals := 43 } : Room) s m args below meth c H locs 0 0 QQ (F0 m 28 ls []) := by
    intro n
    induction n with
    | zero =>
      intro v1 x_iK7 k7 hk7 v2 x_aK5 x_aK6 H locs ls h hP hD hS hl
      rw [f_K_gatherAtoms_28] at h
      cases h
    | succ n ih =>
      intro v1 x_iK7 k7 hk7 v2 x_aK5 x_aK6 H locs ls h hP hD hS hl
      rw [f_K_gatherAtoms_28] at h
      refine lv_iload_n hx hb dX2_gatherAtoms_28 rfl (lv_at hl 2 rfl) ?_
      refine lv_aload_n hx hb dX2_gatherAtoms_29 rfl (lv_at hl 0 rfl) ?_
      refine va_get (D := (dC, dI)) (ci := 2) (v := .ref (ad 18)) (C := RX2) (T := TX2) (N := 15) hx hb hts ki2 hown hK hP 0 rfl rfl 1 (by decide) kf54 (fun _ h9 => h9) rfl dX2_gatherAtoms_30 ?_
      refine va_get (D := (dC, dI)) (ci := 1) (v := .int (iC 9)) (C := RX1) (T := TX1) (N := 10) hx hb hts ki1 hown hK hP 18 rfl rfl 9 (by decide) kf55 (fun _ h9 => h9) rfl dX2_gatherAtoms_33 ?_
      refine lv_icmp_ge (tgt := 105) hx hb dX2_gatherAtoms_36 (by decide) (fun cz => ?_) (fun cz => ?_)
      · have h := g_t h cz
        refine lv_aload_n hx hb dX2_gatherAtoms_105 rfl (lv_at hl 0 rfl) ?_
        refine lv_dup hx hb dX2_gatherAtoms_106 rfl ?_
        refine va_get (D := (dC, dI)) (ci := 2) (v := .int x_iK7) (C := RX2) (T := TX2) (N := 15) hx hb hts ki2 hown hK hP 0 rfl rfl 7 (by decide) kf144 (fun _ h9 => h9) rfl dX2_gatherAtoms_107 ?_
        refine lv_aload_n hx hb dX2_gatherAtoms_110 rfl (lv_at hl 0 rfl) ?_
        refine va_get (D := (dC, dI)) (ci := 2) (v := .ref (ad 3)) (C := RX2) (T := TX2) (N := 15) hx hb hts ki2 hown hK hP 0 rfl rfl 5 (by decide) kf18 (fun _ h9 => h9) rfl dX2_gatherAtoms_111 ?_
        refine lv_iload_n hx hb dX2_gatherAtoms_114 rfl (lv_at hl 1 rfl) ?_
        obtain ⟨g_1, h⟩ := g_n h
        refine va_iald (f := x_aK5) hx hb hK hP 3 0 rfl rfl g_1 dX2_gatherAtoms_115 ?_
        refine lv_ior hx hb dX2_gatherAtoms_116 ?_
        refine va_put (D := (dC, dI)) (ci := 2) (v := .int ((x_iK7 ||| (x_aK5 v1.toNatClampNeg)))) (ty := .int) (C := RX2) (T := TX2) (N := 15) hx hb hts ki2 tyX2 tyX2_ok nmX2 hown hK hP hD hS 0 rfl rfl 7 (by decide) kf144 (fun _ h9 => h9) rfl (by decide +kernel) rfl rfl (Nat.le_of_ble_eq_true rfl) dX2_gatherAtoms_117 (fun H locs hP hD hS => ?_)
        have hP : va_P (dC, dI) vwCl (zzK ad cy (ad 11) (ad 18) (us iK [(7, (x_iK7 ||| (x_aK5 v1.toNatClampNeg)))]) lK (us aK [(5, x_aK5), (6, x_aK6)]) iB lB aB iC aC) H := Eq.mp (congrArg (fun w => va_P (dC, dI) vwCl w H) (stK_iK7 ad cy (ad 11) (ad 18) iK lK (us aK [(5, x_aK5), (6, x_aK6)]) iB lB aB iC aC [(7, x_iK7)] ((x_iK7 ||| (x_aK5 v1.toNatClampNeg))))) hP
        have hD : va_D A (zzK ad cy (ad 11) (ad 18) (us iK [(7, (x_iK7 ||| (x_aK5 v1.toNatClampNeg)))]) lK (us aK [(5, x_aK5), (6, x_aK6)]) iB lB aB iC aC) := Eq.mp (congrArg (fun w => va_D A w) (stK_iK7 ad cy (ad 11) (ad 18) iK lK (us aK [(5, x_aK5), (6, x_aK6)]) iB lB aB iC aC [(7, x_iK7)] ((x_iK7 ||| (x_aK5 v1.toNatClampNeg))))) hD
        refine lv_iinc (v := (v1 + (1 : Int32))) (lv' := [(1, .int ((v1 + (1 : Int32)))), (0, .ref (ad 0)), (2, .int v2)]) hx hb dX2_gatherAtoms_120 hl (k := 1) rfl rfl (by decide) rfl (fun ls hl => ?_)
        refine lv_goto (tgt := 7) hx hb dX2_gatherAtoms_123 (by decide) ?_
        exact hk7 ((v1 + (1 : Int32))) ((x_iK7 ||| (x_aK5 v1.toNatClampNeg))) x_aK5 x_aK6 H locs ls h hP hD hS (lv_sub hl [1, 0] rfl)
      · have h := g_f h cz
        refine lv_aload_n hx hb dX2_gatherAtoms_39 rfl (lv_at hl 0 rfl) ?_
        refine va_get (D := (dC, dI)) (ci := 2) (v := .ref (ad 18)) (C := RX2) (T := TX2) (N := 15) hx hb hts ki2 hown hK hP 0 rfl rfl 1 (by decide) kf54 (fun _ h9 => h9) rfl dX2_gatherAtoms_40 ?_
        refine lv_iload_n hx hb dX2_gatherAtoms_43 rfl (lv_at hl 2 rfl) ?_
        obtain ⟨q44, e44, h⟩ := g_b h
        refine callVi (cc := cX2_gatherAtoms) (ws' := zzK ad cy (ad 11) (ad 18) (us iK [(7, x_iK7)]) lK (us aK [(5, x_aK5), (6, x_aK6)]) iB lB aB iC aC) (As := [.int v2]) (rest := []) ⟨hx, hb, hml, hown, hts⟩ (c_C_roleOfAtom l dC dI cy (fun i => ad (i + 18)) H.size v2 iC aC q44 e44) (cwV 1 hts (goodV m_ml_X2_147 m_im_X1_roleOfAtom m_se_X1_roleOfAtom m_in_X1 m_cd_X1_roleOfAtom) rfl rfl rfl (by decide +kernel) ⟨Nat.le_of_ble_eq_true rfl, Nat.le_of_ble_eq_true rfl⟩) hN hK hP hD hS hA [18, 19, 20, 21, 22, 23, 24, 25, 26] [none, none, none, none, none, none, none, none, none, none, none, none, none, none, none, none, none, none, some 0, some 1, some 2, some 3, some 4, some 5, some 6, some 7, some 8] rfl rfl rfl rfl rfl rfl 18 rfl rfl rfl hl.1 rfl (Nat.le_of_ble_eq_true rfl) dX2_gatherAtoms_44 ⟨Nat.zero_le _, Nat.zero_le _⟩ (fun H locs hP hD hS => ?_)
        refine lv_istore_n (lv' := [(3, .int q44), (0, .ref (ad 0)), (1, .int v1), (2, .int v2)]) hx hb dX2_gatherAtoms_47 rfl hl (by decide) rfl (fun ls hl => ?_)
        refine lv_iload_n hx hb dX2_gatherAtoms_48 rfl (lv_at hl 0 rfl) ?_
        refine lv_iload_n hx hb dX2_gatherAtoms_49 rfl (lv_at hl 2 rfl) ?_
        refine lv_icmp_ne (tgt := 65) hx hb dX2_gatherAtoms_50 (by decide) (fun cz => ?_) (fun cz => ?_)
        · have h := g_f h cz
          exact B65 v1 v2 q44 x_iK7 x_aK5 x_aK6 (f_K_gatherAtoms_28 N (aB 12) (iC 9) (aC 5) (iK 7) (aK 5) (aK 6) k7 v1 x_iK7 n) (ih v1 x_iK7 k7 hk7) H locs ls h hP hD hS (lv_sub hl [1, 2, 3, 0] rfl)
        · have h := g_t h cz
          refine lv_aload_n hx hb dX2_gatherAtoms_53 rfl (lv_at hl 1 rfl) ?_
          refine va_get (D := (dC, dI)) (ci := 2) (v := .ref (ad 3)) (C := RX2) (T := TX2) (N := 15) hx hb hts ki2 hown hK hP 0 rfl rfl 5 (by decide) kf18 (fun _ h9 => h9) rfl dX2_gatherAtoms_54 ?_
          refine lv_iload_n hx hb dX2_gatherAtoms_57 rfl (lv_at hl 2 rfl) ?_
          refine lv_dup2_11 hx hb dX2_gatherAtoms_58 rfl rfl ?_
          obtain ⟨g_1, h⟩ := g_n h
          refine va_iald (f := x_aK5) hx hb hK hP 3 0 rfl rfl g_1 dX2_gatherAtoms_59 ?_
          refine lv_iconst (v := 1) hx hb dX2_gatherAtoms_60 (by decide) ?_
          refine lv_iload_n hx hb dX2_gatherAtoms_61 rfl (lv_at hl 3 rfl) ?_
          refine lv_ishl hx hb dX2_gatherAtoms_62 ?_
          refine lv_ior hx hb dX2_gatherAtoms_63 ?_
          refine va_iast (f := x_aK5) hx hb hK hP hD hS 3 0 rfl rfl g_1 dX2_gatherAtoms_64 (fun H locs hP hD hS => ?_)
          have hP : va_P (dC, dI) vwCl (zzK ad cy (ad 11) (ad 18) (us iK [(7, x_iK7)]) lK (us aK [(5, (upd x_aK5 v1.toNatClampNeg (((x_aK5 v1.toNatClampNeg) ||| ((1 : Int32) <<< (v2 &&& 31)))))), (6, x_aK6)]) iB lB aB iC aC) H := Eq.mp (congrArg (fun w => va_P (dC, dI) vwCl w H) (stK_aK5 ad cy (ad 11) (ad 18) (us iK [(7, x_iK7)]) lK aK iB lB aB iC aC [(5, x_aK5), (6, x_aK6)] ((upd x_aK5 v1.toNatClampNeg (((x_aK5 v1.toNatClampNeg) ||| ((1 : Int32) <<< (v2 &&& 31)))))))) hP
          have hD : va_D A (zzK ad cy (ad 11) (ad 18) (us iK [(7, x_iK7)]) lK (us aK [(5, (upd x_aK5 v1.toNatClampNeg (((x_aK5 v1.toNatClampNeg) ||| ((1 : Int32) <<< (v2 &&& 31)))))), (6, x_aK6)]) iB lB aB iC aC) := Eq.mp (congrArg (fun w => va_D A w) (stK_aK5 ad cy (ad 11) (ad 18) (us iK [(7, x_iK7)]) lK aK iB lB aB iC aC [(5, x_aK5), (6, x_aK6)] ((upd x_aK5 v1.toNatClampNeg (((x_aK5 v1.toNatClampNeg) ||| ((1 : Int32) <<< (v2 &&& 31)))))))) hD
          exact B65 v1 v2 q44 x_iK7 ((upd x_aK5 v1.toNatClampNeg (((x_aK5 v1.toNatClampNeg) ||| ((1 : Int32) <<< (v2 &&& 31)))))) x_aK6 (f_K_gatherAtoms_28 N (aB 12) (iC 9) (aC 5) (iK 7) (aK 5) (aK 6) k7 v1 x_iK7 n) (ih v1 x_iK7 k7 hk7) H locs ls h hP hD hS (lv_sub hl [1, 2, 3, 0] rfl)
  have B7 : ∀ (n : Nat) (v1 : Int32) (x_iK7 : Int32) (x_aK5 : Nat → Int32) (x_aK6 : Nat → Int32) (H : Heap) (locs : List Loc) (ls : Array Slot), f_K_gatherAtoms_7 N (aB 12) (iC 9) (aC 5) (iK 7) (aK 5) (aK 6) n v1 x_iK7 x_aK5 x_aK6 = some q → va_P (dC, dI) vwCl (zzK ad cy (ad 11) (ad 18) (us iK [(7, x_iK7)]) lK (us aK [(5, x_aK5), (6, x_aK6)]) iB lB aB iC aC) H → va_D A (zzK ad cy (ad 11) (ad 18) (us iK [(7, x_iK7)]) lK (us aK [(5, x_aK5), (6, x_aK6)]) iB lB aB iC aC) → va_S A s.heap H locs → lv_has ls 4 [(0, .ref (ad 0)), (1, .int v1)] → W p l e ({ frames := 2, cells := 0, slots := 0, locals := 43 } : Room) s m args below meth c H locs 0 0 QQ (F0 m 7 ls []) := by
    intro n
    induction n with
    | zero =>
      intro v1 x_iK7 x_aK5 x_aK6 H locs ls h hP hD hS hl
      rw [f_K_gatherAtoms_7] at h
      cases h
    | succ n ih =>
      intro v1 x_iK7 x_aK5 x_aK6 H locs ls h hP hD hS hl
      rw [f_K_gatherAtoms_7] at h
      refine lv_iload_n hx hb dX2_gatherAtoms_7 rfl (lv_at hl 1 rfl) ?_
      refine lv_iconst (v := 3) hx hb dX2_gatherAtoms_8 (by decide) ?_
      refine lv_icmp_ge (tgt := 126) hx hb dX2_gatherAtoms_9 (by decide) (fun cz => ?_) (fun cz => ?_)
      · have h := g_t h cz
        have h' := Option.some.inj h
        rw [← hQQ]
        exact W.vret hx hb hr (fun t ht hW => ⟨⟨(), rfl, trivial, by rw [← hWQ, ← h', ht]; exact hP, va_K.moved hW.alike hK⟩, hS.F ht⟩) hS.2.2 dX2_gatherAtoms_126
      · have h := g_f h cz
        refine lv_aload_n hx hb dX2_gatherAtoms_12 rfl (lv_at hl 0 rfl) ?_
        refine va_get (D := (dC, dI)) (ci := 2) (v := .ref (ad 3)) (C := RX2) (T := TX2) (N := 15) hx hb hts ki2 hown hK hP 0 rfl rfl 5 (by decide) kf18 (fun _ h9 => h9) rfl dX2_gatherAtoms_13 ?_
        refine lv_iload_n hx hb dX2_gatherAtoms_16 rfl (lv_at hl 1 rfl) ?_
        refine lv_iconst (v := 0) hx hb dX2_gatherAtoms_17 (by decide) ?_
        obtain ⟨g_1, h⟩ := g_n h
        refine va_iast (f := x_aK5) hx hb hK hP hD hS 3 0 rfl rfl g_1 dX2_gatherAtoms_18 (fun H locs hP hD hS => ?_)
        have hP : va_P (dC, dI) vwCl (zzK ad cy (ad 11) (ad 18) (us iK [(7, x_iK7)]) lK (us aK [(5, (upd x_aK5 v1.toNatClampNeg ((0 : Int32)))), (6, x_aK6)]) iB lB aB iC aC) H := Eq.mp (congrArg (fun w => va_P (dC, dI) vwCl w H) (stK_aK5 ad cy (ad 11) (ad 18) (us iK [(7, x_iK7)]) lK aK iB lB aB iC aC [(5, x_aK5), (6, x_aK6)] ((upd x_aK5 v1.toNatClampNeg ((0 : Int32)))))) hP
        have hD : va_D A (zzK ad cy (ad 11) (ad 18) (us iK [(7, x_iK7)]) lK (us aK [(5, (upd x_aK5 v1.toNatClampNeg ((0 : Int32)))), (6, x_aK6)]) iB lB aB iC aC) := Eq.mp (congrArg (fun w => va_D A w) (stK_aK5 ad cy (ad 11) (ad 18) (us iK [(7, x_iK7)]) lK aK iB lB aB iC aC [(5, x_aK5), (6, x_aK6)] ((upd x_aK5 v1.toNatClampNeg ((0 : Int32)))))) hD
        refine lv_aload_n hx hb dX2_gatherAtoms_19 rfl (lv_at hl 0 rfl) ?_
        refine va_get (D := (dC, dI)) (ci := 2) (v := .ref (ad 4)) (C := RX2) (T := TX2) (N := 15) hx hb hts ki2 hown hK hP 0 rfl rfl 6 (by decide) kf22 (fun _ h9 => h9) rfl dX2_gatherAtoms_20 ?_
        refine lv_iload_n hx hb dX2_gatherAtoms_23 rfl (lv_at hl 1 rfl) ?_
        refine lv_iconst (v := 0) hx hb dX2_gatherAtoms_24 (by decide) ?_
        refine va_iast (f := x_aK6) hx hb hK hP hD hS 4 0 rfl rfl g_1 dX2_gatherAtoms_25 (fun H locs hP hD hS => ?_)
        have hP : va_P (dC, dI) vwCl (zzK ad cy (ad 11) (ad 18) (us iK [(7, x_iK7)]) lK (us aK [(5, (upd x_aK5 v1.toNatClampNeg ((0 : Int32)))), (6, (upd x_aK6 v1.toNatClampNeg ((0 : Int32))))]) iB lB aB iC aC) H := Eq.mp (congrArg (fun w => va_P (dC, dI) vwCl w H) (stK_aK6 ad cy (ad 11) (ad 18) (us iK [(7, x_iK7)]) lK aK iB lB aB iC aC [(5, (upd x_aK5 v1.toNatClampNeg ((0 : Int32)))), (6, x_aK6)] ((upd x_aK6 v1.toNatClampNeg ((0 : Int32)))))) hP
        have hD : va_D A (zzK ad cy (ad 11) (ad 18) (us iK [(7, x_iK7)]) lK (us aK [(5, (upd x_aK5 v1.toNatClampNeg ((0 : Int32)))), (6, (upd x_aK6 v1.toNatClampNeg ((0 : Int32))))]) iB lB aB iC aC) := Eq.mp (congrArg (fun w => va_D A w) (stK_aK6 ad cy (ad 11) (ad 18) (us iK [(7, x_iK7)]) lK aK iB lB aB iC aC [(5, (upd x_aK5 v1.toNatClampNeg ((0 : Int32)))), (6, x_aK6)] ((upd x_aK6 v1.toNatClampNeg ((0 : Int32)))))) hD
        refine lv_iconst (v := 0) hx hb dX2_gatherAtoms_26 (by decide) ?_
        refine lv_istore_n (lv' := [(2, .int ((0 : Int32))), (0, .ref (ad 0)), (1, .int v1)]) hx hb dX2_gatherAtoms_27 rfl hl (by decide) rfl (fun ls hl => ?_)
        exact B28 N v1 x_iK7 (f_K_gatherAtoms_7 N (aB 12) (iC 9) (aC 5) (iK 7) (aK 5) (aK 6) n) ih ((0 : Int32)) ((upd x_aK5 v1.toNatClampNeg ((0 : Int32)))) ((upd x_aK6 v1.toNatClampNeg ((0 : Int32)))) H locs ls h hP hD hS (lv_sub hl [1, 2, 0] rfl)
  intro H locs hP hD hS
  unfold f_K_gatherAtoms at h
  refine lv_aload_n hx hb dX2_gatherAtoms_0 rfl (lv_at hl 0 rfl) ?_
  refine lv_iconst (v := 0) hx hb dX2_gatherAtoms_1 (by decide) ?_
  refine va_put (D := (dC, dI)) (ci := 2) (v := .int ((0 : Int32))) (ty := .int) (C := RX2) (T := TX2) (N := 15) hx hb hts ki2 tyX2 tyX2_ok nmX2 hown hK hP hD hS 0 rfl rfl 7 (by decide) kf144 (fun _ h9 => h9) rfl (by decide +kernel) rfl rfl (Nat.le_of_ble_eq_true rfl) dX2_gatherAtoms_2 (fun H locs hP hD hS => ?_)
  have hP : va_P (dC, dI) vwCl (zzK ad cy (ad 11) (ad 18) (us iK [(7, (0 : Int32))]) lK aK iB lB aB iC aC) H := Eq.mp (congrArg (fun w => va_P (dC, dI) vwCl w H) (sfK_iK7 ad cy (ad 11) (ad 18) iK lK aK iB lB aB iC aC ((0 : Int32)))) hP
  have hD : va_D A (zzK ad cy (ad 11) (ad 18) (us iK [(7, (0 : Int32))]) lK aK iB lB aB iC aC) := Eq.mp (congrArg (fun w => va_D A w) (sfK_iK7 ad cy (ad 11) (ad 18) iK lK aK iB lB aB iC aC ((0 : Int32)))) hD
  refine lv_iconst (v := 0) hx hb dX2_gatherAtoms_5 (by decide) ?_
  refine lv_istore_n (lv' := [(1, .int ((0 : Int32))), (0, .ref (ad 0))]) hx hb dX2_gatherAtoms_6 rfl hl (by decide) rfl (fun ls hl => ?_)
  exact B7 N ((0 : Int32)) ((0 : Int32)) (aK 5) (aK 6) H locs ls h hP hD hS (lv_sub hl [1, 0] rfl)
