/-! ===== the law's loop, over any invariant that every call keeps ===== -/
def lawB (ss : Nat → Int32) (L : Nat) : Int32 × MT → Option ((Int32 × MT) ⊕ ((Int32 × MT) ⊕ MT)) := (fun (y1, ν2) => ((if ((Int32.ofNat L) - 6) < y1 then some (Sum.inr (Sum.inr ν2)) else (scl ss L y1).bind fun x9 => (((if (x9 &&& 31) = 0 then (scl ss L (y1 + 1)).bind fun x16 => (scl ss L (y1 + 2)).bind fun x17 => (scl ss L (y1 + 3)).bind fun x18 => (m_X8_sheet Zf 0 x16 x17 x18 ν2).bind fun (r19, ν20) => (scl ss L (y1 + 1)).bind fun x21 => (scl ss L (y1 + 2)).bind fun x22 => (scl ss L (y1 + 3)).bind fun x23 => (m_X9_sheet Zf 106 x21 x22 x23 ν20).bind fun (r24, ν25) => (if r19 = r24 then some (Sum.inr ν25) else some (Sum.inl (Sum.inr (Sum.inl (0, ν25))))) else if (x9 &&& 31) = 1 then (scl ss L (y1 + 1)).bind fun x27 => (scl ss L (y1 + 2)).bind fun x28 => (scl ss L (y1 + 3)).bind fun x29 => (m_X8_set Zf 0 x27 x28 x29 ν2).bind fun (r30, ν31) => (scl ss L (y1 + 1)).bind fun x32 => (scl ss L (y1 + 2)).bind fun x33 => (scl ss L (y1 + 3)).bind fun x34 => (m_X9_set Zf 106 x32 x33 x34 ν31).bind fun (r35, ν36) => (if r30 = r35 then some (Sum.inr ν36) else some (Sum.inl (Sum.inr (Sum.inl (0, ν36))))) else if (x9 &&& 31) = 2 then (scl ss L (y1 + 1)).bind fun x38 => (scl ss L (y1 + 2)).bind fun x39 => (scl ss L (y1 + 3)).bind fun x40 => (scl ss L (y1 + 4)).bind fun x41 => (scl ss L (y1 + 5)).bind fun x42 => (m_X8_copy Zf 0 x38 x39 x40 x41 x42 ν2).bind fun (r43, ν44) => (scl ss L (y1 + 1)).bind fun x45 => (scl ss L (y1 + 2)).bind fun x46 => (scl ss L (y1 + 3)).bind fun x47 => (scl ss L (y1 + 4)).bind fun x48 => (scl ss L (y1 + 5)).bind fun x49 => (m_X9_copy Zf 106 x45 x46 x47 x48 x49 ν44).bind fun (r50, ν51) => (if r43 = r50 then some (Sum.inr ν51) else some (Sum.inl (Sum.inr (Sum.inl (0, ν51))))) else if (x9 &&& 31) = 3 then (scl ss L (y1 + 1)).bind fun x53 => (m_X8_drop Zf 0 x53 ν2).bind fun (r54, ν55) => (scl ss L (y1 + 1)).bind fun x56 => (m_X9_drop Zf 106 x56 ν55).bind fun (r57, ν58) => (if r54 = r57 then some (Sum.inr ν58) else some (Sum.inl (Sum.inr (Sum.inl (0, ν58))))) else if (x9 &&& 31) = 4 then (scl ss L (y1 + 1)).bind fun x60 => (scl ss L (y1 + 2)).bind fun x61 => (scl ss L (y1 + 3)).bind fun x62 => (m_X8_feed Zf 0 ((((x60 : Int32).toInt64) <<< ((32 : Int32).toInt64 &&& 63)) ||| (((x61 : Int32).toInt64) &&& 4294967295)) x62 ν2).bind fun (r63, ν64) => (scl ss L (y1 + 1)).bind fun x65 => (scl ss L (y1 + 2)).bind fun x66 => (scl ss L (y1 + 3)).bind fun x67 => (m_X9_feed Zf 106 ((((x65 : Int32).toInt64) <<< ((32 : Int32).toInt64 &&& 63)) ||| (((x66 : Int32).toInt64) &&& 4294967295)) x67 ν64).bind fun (r68, ν69) => (if r63 = r68 then some (Sum.inr ν69) else some (Sum.inl (Sum.inr (Sum.inl (0, ν69))))) else if (x9 &&& 31) = 5 then (m_X8_plan Zf 127 0 ν2).bind fun (r71, ν72) => (m_X9_plan Zf 106 ν72).bind fun (r73, ν74) => (if r71 = r73 then some (Sum.inr ν74) else some (Sum.inl (Sum.inr (Sum.inl (0, ν74))))) else if (x9 &&& 31) = 6 then (m_X8_fault Zf 0 ν2).bind fun r76 => (m_X9_fault Zf 106 ν2).bind fun (r77, ν78) => (if r76 = r77 then some (Sum.inr ν78) else some (Sum.inl (Sum.inr (Sum.inl (0, ν78))))) else if (x9 &&& 31) = 7 then (scl ss L (y1 + 1)).bind fun x80 => (scl ss L (y1 + 2)).bind fun x81 => (m_X8_act Zf 127 0 x80 x81 ν2).bind fun r82 => (scl ss L (y1 + 1)).bind fun x83 => (scl ss L (y1 + 2)).bind fun x84 => (m_X9_act Zf 106 x83 x84 ν2).bind fun (r85, ν86) => (if r82 = r85 then some (Sum.inr ν86) else some (Sum.inl (Sum.inr (Sum.inl (0, ν86))))) else if (x9 &&& 31) = 8 then (scl ss L (y1 + 1)).bind fun x88 => (scl ss L (y1 + 2)).bind fun x89 => (m_X8_open Zf 127 0 x88 x89 ν2).bind fun (r90, ν91) => (scl ss L (y1 + 1)).bind fun x92 => (scl ss L (y1 + 2)).bind fun x93 => (m_X9_open Zf 106 x92 x93 ν91).bind fun (r94, ν95) => (if r90 = r94 then some (Sum.inr ν95) else some (Sum.inl (Sum.inr (Sum.inl (0, ν95))))) else if (x9 &&& 31) = 9 then (scl ss L (y1 + 1)).bind fun x97 => (scl ss L (y1 + 2)).bind fun x98 => (m_X8_run Zf 127 0 x97 x98 ν2).bind fun (r99, ν100) => (scl ss L (y1 + 1)).bind fun x101 => (scl ss L (y1 + 2)).bind fun x102 => (m_X9_run Zf 106 x101 x102 ν100).bind fun (r103, ν104) => (if r99 = r103 then some (Sum.inr ν104) else some (Sum.inl (Sum.inr (Sum.inl (0, ν104))))) else if (x9 &&& 31) = 10 then (m_X8_runs Zf 127 0 ν2).bind fun (r106, ν107) => (m_X9_runs Zf 106 ν107).bind fun (r108, ν109) => (if r106 = r108 then some (Sum.inr ν109) else some (Sum.inl (Sum.inr (Sum.inl (0, ν109))))) else if (x9 &&& 31) = 11 then (scl ss L (y1 + 1)).bind fun x111 => (scl ss L (y1 + 2)).bind fun x112 => (m_X8_cell Zf 127 0 x111 x112 ν2).bind fun (r113, ν114) => (scl ss L (y1 + 1)).bind fun x115 => (scl ss L (y1 + 2)).bind fun x116 => (m_X9_cell Zf 106 x115 x116 ν114).bind fun (r117, ν118) => (if r113 = r117 then some (Sum.inr ν118) else some (Sum.inl (Sum.inr (Sum.inl (0, ν118))))) else if (x9 &&& 31) = 12 then (scl ss L (y1 + 1)).bind fun x120 => (m_X8_height Zf 127 0 x120 ν2).bind fun r121 => (scl ss L (y1 + 1)).bind fun x122 => (m_X9_height Zf 106 x122 ν2).bind fun (r123, ν124) => (if r121 = r123 then some (Sum.inr ν124) else some (Sum.inl (Sum.inr (Sum.inl (0, ν124))))) else if (x9 &&& 31) = 13 then (m_X8_minutes Zf 0 ν2).bind fun r126 => (m_X9_minutes Zf 106 ν2).bind fun (r127, ν128) => (if r126 = r127 then some (Sum.inr ν128) else some (Sum.inl (Sum.inr (Sum.inl (0, ν128))))) else if (x9 &&& 31) = 14 then (scl ss L (y1 + 1)).bind fun x130 => (m_X8_gives Zf 127 0 x130 ν2).bind fun (r131, ν132) => (scl ss L (y1 + 1)).bind fun x133 => (m_X9_gives Zf 106 x133 ν132).bind fun (r134, ν135) => (if r131 = r134 then some (Sum.inr ν135) else some (Sum.inl (Sum.inr (Sum.inl (0, ν135))))) else if (x9 &&& 31) = 15 then (scl ss L (y1 + 1)).bind fun x137 => (m_X8_best Zf 127 0 x137 ν2).bind fun (r138, ν139) => (scl ss L (y1 + 1)).bind fun x140 => (m_X9_best Zf 106 x140 ν139).bind fun (r141, ν142) => (if r138 = r141 then some (Sum.inr ν142) else some (Sum.inl (Sum.inr (Sum.inl (0, ν142))))) else if (x9 &&& 31) = 16 then (m_X8_orders Zf 127 0 ν2).bind fun (r144, ν145) => (m_X9_orders Zf 106 ν145).bind fun (r146, ν147) => (if r144 = r146 then some (Sum.inr ν147) else some (Sum.inl (Sum.inr (Sum.inl (0, ν147))))) else if (x9 &&& 31) = 17 then (scl ss L (y1 + 1)).bind fun x149 => (m_X8_beforehand Zf 127 0 x149 ν2).bind fun (r150, ν151) => (scl ss L (y1 + 1)).bind fun x152 => (m_X9_beforehand Zf 106 x152 ν151).bind fun (r153, ν154) => (if r150 = r153 then some (Sum.inr ν154) else some (Sum.inl (Sum.inr (Sum.inl (0, ν154))))) else if (x9 &&& 31) = 18 then (scl ss L (y1 + 1)).bind fun x156 => (scl ss L (y1 + 2)).bind fun x157 => (m_X8_spots Zf 127 0 x156 x157 ν2).bind fun (r158, ν159) => (scl ss L (y1 + 1)).bind fun x160 => (scl ss L (y1 + 2)).bind fun x161 => (m_X9_spots Zf 106 x160 x161 ν159).bind fun (r162, ν163) => (if r158 = r162 then some (Sum.inr ν163) else some (Sum.inl (Sum.inr (Sum.inl (0, ν163))))) else if (x9 &&& 31) = 19 then (scl ss L (y1 + 1)).bind fun x165 => (m_X8_crack Zf 0 x165 ν2).bind fun r166 => (scl ss L (y1 + 1)).bind fun x167 => (m_X9_crack Zf 106 x167 ν2).bind fun (r168, ν169) => (if r166 = r168 then some (Sum.inr ν169) else some (Sum.inl (Sum.inr (Sum.inl (0, ν169))))) else if (x9 &&& 31) = 20 then (m_X8_warm Zf 127 0 ν2).bind fun r171 => (m_X9_warm Zf 106 ν2).bind fun (r172, ν173) => (if r171 = r172 then some (Sum.inr ν173) else some (Sum.inl (Sum.inr (Sum.inl (0, ν173))))) else if (x9 &&& 31) = 21 then (scl ss L (y1 + 1)).bind fun x175 => (scl ss L (y1 + 2)).bind fun x176 => (scl ss L (y1 + 3)).bind fun x177 => (m_X8_wire Zf 127 0 x175 x176 x177 ν2).bind fun (r178, ν179) => (scl ss L (y1 + 1)).bind fun x180 => (scl ss L (y1 + 2)).bind fun x181 => (scl ss L (y1 + 3)).bind fun x182 => (m_X9_wire Zf 106 x180 x181 x182 ν179).bind fun (r183, ν184) => (if r178 = r183 then some (Sum.inr ν184) else some (Sum.inl (Sum.inr (Sum.inl (0, ν184))))) else if (x9 &&& 31) = 22 then (scl ss L (y1 + 1)).bind fun x186 => (m_X8_kind Zf 127 0 x186 ν2).bind fun r187 => (scl ss L (y1 + 1)).bind fun x188 => (m_X9_kind Zf 106 x188 ν2).bind fun (r189, ν190) => (if r187 = r189 then some (Sum.inr ν190) else some (Sum.inl (Sum.inr (Sum.inl (0, ν190))))) else if (x9 &&& 31) = 23 then (scl ss L (y1 + 1)).bind fun x192 => (scl ss L (y1 + 2)).bind fun x193 => (m_X8_as Zf 127 0 x192 x193 ν2).bind fun (r194, ν195) => (scl ss L (y1 + 1)).bind fun x196 => (scl ss L (y1 + 2)).bind fun x197 => (m_X9_as Zf 106 x196 x197 ν195).bind fun (r198, ν199) => (if r194 = r198 then some (Sum.inr ν199) else some (Sum.inl (Sum.inr (Sum.inl (0, ν199))))) else if (x9 &&& 31) = 24 then (scl ss L (y1 + 1)).bind fun x201 => (scl ss L (y1 + 2)).bind fun x202 => (m_X8_ask Zf 127 0 x201 x202 ν2).bind fun (r203, ν204) => (scl ss L (y1 + 1)).bind fun x205 => (scl ss L (y1 + 2)).bind fun x206 => (m_X9_ask Zf 106 x205 x206 ν204).bind fun (r207, ν208) => (if r203 = r207 then some (Sum.inr ν208) else some (Sum.inl (Sum.inr (Sum.inl (0, ν208))))) else if (x9 &&& 31) = 25 then (scl ss L (y1 + 1)).bind fun x210 => (m_X8_trace Zf 0 x210 ν2).bind fun r211 => (scl ss L (y1 + 1)).bind fun x212 => (m_X9_trace Zf 106 x212 ν2).bind fun (r213, ν214) => (if r211 = r213 then some (Sum.inr ν214) else some (Sum.inl (Sum.inr (Sum.inl (0, ν214))))) else if (x9 &&& 31) = 26 then (scl ss L (y1 + 1)).bind fun x216 => (m_X8_count Zf 127 0 x216 ν2).bind fun r217 => (scl ss L (y1 + 1)).bind fun x218 => (m_X9_count Zf 106 x218 ν2).bind fun (r219, ν220) => (if r217 = r219 then some (Sum.inr ν220) else some (Sum.inl (Sum.inr (Sum.inl (0, ν220))))) else if (x9 &&& 31) = 27 then (m_X8_status Zf 0 ν2).bind fun r222 => (m_X9_status Zf 106 ν2).bind fun (r223, ν224) => (if r222 = r223 then some (Sum.inr ν224) else some (Sum.inl (Sum.inr (Sum.inl (0, ν224))))) else some (Sum.inr ν2)) : Option (((Int32 × MT) ⊕ ((Int32 × MT) ⊕ (MT))) ⊕ (MT)))).bind (jn (fun ν10 => (some (y1 + 6)).bind fun x14 => some (Sum.inl (x14, ν10))))) : Option ((Int32 × MT) ⊕ ((Int32 × MT) ⊕ (MT)))))
theorem lawB_eq (ss : Nat → Int32) (L : Nat) (μ : MT) : m_L_law Zf 127 ss L 0 106 μ = (loop (lawB ss L) LN (0, μ)).bind (jn fun ν => some (1, ν)) := rfl
def OkI (Inv : MT → Prop) (c : Option (Int32 × MT)) (r : MT → Option (Int32 × MT)) : Prop := ∃ a μ1 μ2, c = some (a, μ1) ∧ r μ1 = some (a, μ2) ∧ Inv μ2
def OkR (Inv : MT → Prop) (c : Option Int32) (r : Option (Int32 × MT)) : Prop := ∃ a μ2, c = some a ∧ r = some (a, μ2) ∧ Inv μ2
/-- every call answers alike and keeps the invariant -/
def Ops (Inv : MT → Prop) : Prop := ∀ ν, Inv ν → (∀ a0 a1 a2 : Int32, OkI Inv (m_X8_sheet Zf 0 a0 a1 a2 ν) (fun μ => m_X9_sheet Zf 106 a0 a1 a2 μ)) ∧ (∀ a0 a1 a2 : Int32, OkI Inv (m_X8_set Zf 0 a0 a1 a2 ν) (fun μ => m_X9_set Zf 106 a0 a1 a2 μ)) ∧ (∀ a0 a1 a2 a3 a4 : Int32, OkI Inv (m_X8_copy Zf 0 a0 a1 a2 a3 a4 ν) (fun μ => m_X9_copy Zf 106 a0 a1 a2 a3 a4 μ)) ∧ (∀ a0 : Int32, OkI Inv (m_X8_drop Zf 0 a0 ν) (fun μ => m_X9_drop Zf 106 a0 μ)) ∧ (∀ a0 a1 a2 : Int32, OkI Inv (m_X8_feed Zf 0 ((((a0 : Int32).toInt64) <<< ((32 : Int32).toInt64 &&& 63)) ||| (((a1 : Int32).toInt64) &&& 4294967295)) a2 ν) (fun μ => m_X9_feed Zf 106 ((((a0 : Int32).toInt64) <<< ((32 : Int32).toInt64 &&& 63)) ||| (((a1 : Int32).toInt64) &&& 4294967295)) a2 μ)) ∧ (OkI Inv (m_X8_plan Zf 127 0 ν) (fun μ => m_X9_plan Zf 106 μ)) ∧ (OkR Inv (m_X8_fault Zf 0 ν) (m_X9_fault Zf 106 ν)) ∧ (∀ a0 a1 : Int32, OkR Inv (m_X8_act Zf 127 0 a0 a1 ν) (m_X9_act Zf 106 a0 a1 ν)) ∧ (∀ a0 a1 : Int32, OkI Inv (m_X8_open Zf 127 0 a0 a1 ν) (fun μ => m_X9_open Zf 106 a0 a1 μ)) ∧ (∀ a0 a1 : Int32, OkI Inv (m_X8_run Zf 127 0 a0 a1 ν) (fun μ => m_X9_run Zf 106 a0 a1 μ)) ∧ (OkI Inv (m_X8_runs Zf 127 0 ν) (fun μ => m_X9_runs Zf 106 μ)) ∧ (∀ a0 a1 : Int32, OkI Inv (m_X8_cell Zf 127 0 a0 a1 ν) (fun μ => m_X9_cell Zf 106 a0 a1 μ)) ∧ (∀ a0 : Int32, OkR Inv (m_X8_height Zf 127 0 a0 ν) (m_X9_height Zf 106 a0 ν)) ∧ (OkR Inv (m_X8_minutes Zf 0 ν) (m_X9_minutes Zf 106 ν)) ∧ (∀ a0 : Int32, OkI Inv (m_X8_gives Zf 127 0 a0 ν) (fun μ => m_X9_gives Zf 106 a0 μ)) ∧ (∀ a0 : Int32, OkI Inv (m_X8_best Zf 127 0 a0 ν) (fun μ => m_X9_best Zf 106 a0 μ)) ∧ (OkI Inv (m_X8_orders Zf 127 0 ν) (fun μ => m_X9_orders Zf 106 μ)) ∧ (∀ a0 : Int32, OkI Inv (m_X8_beforehand Zf 127 0 a0 ν) (fun μ => m_X9_beforehand Zf 106 a0 μ)) ∧ (∀ a0 a1 : Int32, OkI Inv (m_X8_spots Zf 127 0 a0 a1 ν) (fun μ => m_X9_spots Zf 106 a0 a1 μ)) ∧ (∀ a0 : Int32, OkR Inv (m_X8_crack Zf 0 a0 ν) (m_X9_crack Zf 106 a0 ν)) ∧ (OkR Inv (m_X8_warm Zf 127 0 ν) (m_X9_warm Zf 106 ν)) ∧ (∀ a0 a1 a2 : Int32, OkI Inv (m_X8_wire Zf 127 0 a0 a1 a2 ν) (fun μ => m_X9_wire Zf 106 a0 a1 a2 μ)) ∧ (∀ a0 : Int32, OkR Inv (m_X8_kind Zf 127 0 a0 ν) (m_X9_kind Zf 106 a0 ν)) ∧ (∀ a0 a1 : Int32, OkI Inv (m_X8_as Zf 127 0 a0 a1 ν) (fun μ => m_X9_as Zf 106 a0 a1 μ)) ∧ (∀ a0 a1 : Int32, OkI Inv (m_X8_ask Zf 127 0 a0 a1 ν) (fun μ => m_X9_ask Zf 106 a0 a1 μ)) ∧ (∀ a0 : Int32, OkR Inv (m_X8_trace Zf 0 a0 ν) (m_X9_trace Zf 106 a0 ν)) ∧ (∀ a0 : Int32, OkR Inv (m_X8_count Zf 127 0 a0 ν) (m_X9_count Zf 106 a0 ν)) ∧ (OkR Inv (m_X8_status Zf 0 ν) (m_X9_status Zf 106 ν))
theorem scl_at {ss : Nat → Int32} {L i : Nat} (h : i < L) (hL : L ≤ 3072) {v : Int32} (hv : v = nI i) : scl ss L v = some (ss i) := by
  subst hv
  unfold scl
  have hin : vp_in (nI i) L := vp_in_nI h (by omega)
  rw [if_pos (inb_vp.mpr hin), nI_clamp (by omega)]
theorem nI_lit (i k : Nat) (v : Int32) (hv : v = nI k) : nI i + v = nI (i + k) := by
  rw [hv]
  exact nI_add i k
set_option maxRecDepth 20000 in
set_option maxHeartbeats 8000000 in
theorem law_body {Inv : MT → Prop} (hop : Ops Inv) {ss : Nat → Int32} {L i : Nat} {ν : MT} (hi : i + 5 < L) (hL : L ≤ 3072) (hν : Inv ν) : ∃ ν', Inv ν' ∧ lawB ss L (nI i, ν) = some (.inl (nI (i + 6), ν')) := by
  have hlt : ¬ (Int32.ofNat L) - 6 < nI i := by
    have e : (Int32.ofNat L) - 6 = nI (L - 6) := pk_sub (a := L) (b := 6) (by omega)
    rw [e]
    exact nI_nlt (by omega) (by omega)
  have s0 := scl_at (ss := ss) (i := i) (v := nI i) (show i < L by omega) hL rfl
  have s1 := scl_at (ss := ss) (i := i + 1) (v := nI i + 1) (show i + 1 < L by omega) hL (nI_lit i 1 1 rfl)
  have s2 := scl_at (ss := ss) (i := i + 2) (v := nI i + 2) (show i + 2 < L by omega) hL (nI_lit i 2 2 rfl)
  have s3 := scl_at (ss := ss) (i := i + 3) (v := nI i + 3) (show i + 3 < L by omega) hL (nI_lit i 3 3 rfl)
  have s4 := scl_at (ss := ss) (i := i + 4) (v := nI i + 4) (show i + 4 < L by omega) hL (nI_lit i 4 4 rfl)
  have s5 := scl_at (ss := ss) (i := i + 5) (v := nI i + 5) (show i + 5 < L by omega) hL (nI_lit i 5 5 rfl)
  have s6 : nI i + 6 = nI (i + 6) := nI_lit i 6 6 rfl
  obtain ⟨o0, o1, o2, o3, o4, o5, o6, o7, o8, o9, o10, o11, o12, o13, o14, o15, o16, o17, o18, o19, o20, o21, o22, o23, o24, o25, o26, o27⟩ := hop ν hν
  unfold lawB
  simp only []
  rw [if_neg hlt, s0, ob_s]
  generalize ss i &&& 31 = x
  by_cases e0 : x = 0
  · obtain ⟨a, μ1, μ2, h1, h2, h3⟩ := o0 (ss (i + 1)) (ss (i + 2)) (ss (i + 3))
    refine ⟨μ2, h3, ?_⟩
    rw [if_pos e0]
    simp only [s1, s2, s3, ob_s]
    rw [h1]
    simp only [s1, s2, s3, ob_s]
    try simp only [] at h2
    rw [h2]
    simp only [ob_s, if_true, jn, s6]
  by_cases e1 : x = 1
  · obtain ⟨a, μ1, μ2, h1, h2, h3⟩ := o1 (ss (i + 1)) (ss (i + 2)) (ss (i + 3))
    refine ⟨μ2, h3, ?_⟩
    rw [if_neg e0, if_pos e1]
    simp only [s1, s2, s3, ob_s]
    rw [h1]
    simp only [s1, s2, s3, ob_s]
    try simp only [] at h2
    rw [h2]
    simp only [ob_s, if_true, jn, s6]
  by_cases e2 : x = 2
  · obtain ⟨a, μ1, μ2, h1, h2, h3⟩ := o2 (ss (i + 1)) (ss (i + 2)) (ss (i + 3)) (ss (i + 4)) (ss (i + 5))
    refine ⟨μ2, h3, ?_⟩
    rw [if_neg e0, if_neg e1, if_pos e2]
    simp only [s1, s2, s3, s4, s5, ob_s]
    rw [h1]
    simp only [s1, s2, s3, s4, s5, ob_s]
    try simp only [] at h2
    rw [h2]
    simp only [ob_s, if_true, jn, s6]
  by_cases e3 : x = 3
  · obtain ⟨a, μ1, μ2, h1, h2, h3⟩ := o3 (ss (i + 1))
    refine ⟨μ2, h3, ?_⟩
    rw [if_neg e0, if_neg e1, if_neg e2, if_pos e3]
    simp only [s1, ob_s]
    rw [h1]
    simp only [s1, ob_s]
    try simp only [] at h2
    rw [h2]
    simp only [ob_s, if_true, jn, s6]
  by_cases e4 : x = 4
  · obtain ⟨a, μ1, μ2, h1, h2, h3⟩ := o4 (ss (i + 1)) (ss (i + 2)) (ss (i + 3))
    refine ⟨μ2, h3, ?_⟩
    rw [if_neg e0, if_neg e1, if_neg e2, if_neg e3, if_pos e4]
    simp only [s1, s2, s3, ob_s]
    rw [h1]
    simp only [s1, s2, s3, ob_s]
    try simp only [] at h2
    rw [h2]
    simp only [ob_s, if_true, jn, s6]
  by_cases e5 : x = 5
  · obtain ⟨a, μ1, μ2, h1, h2, h3⟩ := o5 
    refine ⟨μ2, h3, ?_⟩
    rw [if_neg e0, if_neg e1, if_neg e2, if_neg e3, if_neg e4, if_pos e5]
    skip
    rw [h1]
    simp only [ob_s]
    try simp only [] at h2
    rw [h2]
    simp only [ob_s, if_true, jn, s6]
  by_cases e6 : x = 6
  · obtain ⟨a, μ2, h1, h2, h3⟩ := o6 
    refine ⟨μ2, h3, ?_⟩
    rw [if_neg e0, if_neg e1, if_neg e2, if_neg e3, if_neg e4, if_neg e5, if_pos e6]
    skip
    rw [h1]
    simp only [ob_s]
    try simp only [] at h2
    rw [h2]
    simp only [ob_s, if_true, jn, s6]
  by_cases e7 : x = 7
  · obtain ⟨a, μ2, h1, h2, h3⟩ := o7 (ss (i + 1)) (ss (i + 2))
    refine ⟨μ2, h3, ?_⟩
    rw [if_neg e0, if_neg e1, if_neg e2, if_neg e3, if_neg e4, if_neg e5, if_neg e6, if_pos e7]
    simp only [s1, s2, ob_s]
    rw [h1]
    simp only [s1, s2, ob_s]
    try simp only [] at h2
    rw [h2]
    simp only [ob_s, if_true, jn, s6]
  by_cases e8 : x = 8
  · obtain ⟨a, μ1, μ2, h1, h2, h3⟩ := o8 (ss (i + 1)) (ss (i + 2))
    refine ⟨μ2, h3, ?_⟩
    rw [if_neg e0, if_neg e1, if_neg e2, if_neg e3, if_neg e4, if_neg e5, if_neg e6, if_neg e7, if_pos e8]
    simp only [s1, s2, ob_s]
    rw [h1]
    simp only [s1, s2, ob_s]
    try simp only [] at h2
    rw [h2]
    simp only [ob_s, if_true, jn, s6]
  by_cases e9 : x = 9
  · obtain ⟨a, μ1, μ2, h1, h2, h3⟩ := o9 (ss (i + 1)) (ss (i + 2))
    refine ⟨μ2, h3, ?_⟩
    rw [if_neg e0, if_neg e1, if_neg e2, if_neg e3, if_neg e4, if_neg e5, if_neg e6, if_neg e7, if_neg e8, if_pos e9]
    simp only [s1, s2, ob_s]
    rw [h1]
    simp only [s1, s2, ob_s]
    try simp only [] at h2
    rw [h2]
    simp only [ob_s, if_true, jn, s6]
  by_cases e10 : x = 10
  · obtain ⟨a, μ1, μ2, h1, h2, h3⟩ := o10 
    refine ⟨μ2, h3, ?_⟩
    rw [if_neg e0, if_neg e1, if_neg e2, if_neg e3, if_neg e4, if_neg e5, if_neg e6, if_neg e7, if_neg e8, if_neg e9, if_pos e10]
    skip
    rw [h1]
    simp only [ob_s]
    try simp only [] at h2
    rw [h2]
    simp only [ob_s, if_true, jn, s6]
  by_cases e11 : x = 11
  · obtain ⟨a, μ1, μ2, h1, h2, h3⟩ := o11 (ss (i + 1)) (ss (i + 2))
    refine ⟨μ2, h3, ?_⟩
    rw [if_neg e0, if_neg e1, if_neg e2, if_neg e3, if_neg e4, if_neg e5, if_neg e6, if_neg e7, if_neg e8, if_neg e9, if_neg e10, if_pos e11]
    simp only [s1, s2, ob_s]
    rw [h1]
    simp only [s1, s2, ob_s]
    try simp only [] at h2
    rw [h2]
    simp only [ob_s, if_true, jn, s6]
  by_cases e12 : x = 12
  · obtain ⟨a, μ2, h1, h2, h3⟩ := o12 (ss (i + 1))
    refine ⟨μ2, h3, ?_⟩
    rw [if_neg e0, if_neg e1, if_neg e2, if_neg e3, if_neg e4, if_neg e5, if_neg e6, if_neg e7, if_neg e8, if_neg e9, if_neg e10, if_neg e11, if_pos e12]
    simp only [s1, ob_s]
    rw [h1]
    simp only [s1, ob_s]
    try simp only [] at h2
    rw [h2]
    simp only [ob_s, if_true, jn, s6]
  by_cases e13 : x = 13
  · obtain ⟨a, μ2, h1, h2, h3⟩ := o13 
    refine ⟨μ2, h3, ?_⟩
    rw [if_neg e0, if_neg e1, if_neg e2, if_neg e3, if_neg e4, if_neg e5, if_neg e6, if_neg e7, if_neg e8, if_neg e9, if_neg e10, if_neg e11, if_neg e12, if_pos e13]
    skip
    rw [h1]
    simp only [ob_s]
    try simp only [] at h2
    rw [h2]
    simp only [ob_s, if_true, jn, s6]
  by_cases e14 : x = 14
  · obtain ⟨a, μ1, μ2, h1, h2, h3⟩ := o14 (ss (i + 1))
    refine ⟨μ2, h3, ?_⟩
    rw [if_neg e0, if_neg e1, if_neg e2, if_neg e3, if_neg e4, if_neg e5, if_neg e6, if_neg e7, if_neg e8, if_neg e9, if_neg e10, if_neg e11, if_neg e12, if_neg e13, if_pos e14]
    simp only [s1, ob_s]
    rw [h1]
    simp only [s1, ob_s]
    try simp only [] at h2
    rw [h2]
    simp only [ob_s, if_true, jn, s6]
  by_cases e15 : x = 15
  · obtain ⟨a, μ1, μ2, h1, h2, h3⟩ := o15 (ss (i + 1))
    refine ⟨μ2, h3, ?_⟩
    rw [if_neg e0, if_neg e1, if_neg e2, if_neg e3, if_neg e4, if_neg e5, if_neg e6, if_neg e7, if_neg e8, if_neg e9, if_neg e10, if_neg e11, if_neg e12, if_neg e13, if_neg e14, if_pos e15]
    simp only [s1, ob_s]
    rw [h1]
    simp only [s1, ob_s]
    try simp only [] at h2
    rw [h2]
    simp only [ob_s, if_true, jn, s6]
  by_cases e16 : x = 16
  · obtain ⟨a, μ1, μ2, h1, h2, h3⟩ := o16 
    refine ⟨μ2, h3, ?_⟩
    rw [if_neg e0, if_neg e1, if_neg e2, if_neg e3, if_neg e4, if_neg e5, if_neg e6, if_neg e7, if_neg e8, if_neg e9, if_neg e10, if_neg e11, if_neg e12, if_neg e13, if_neg e14, if_neg e15, if_pos e16]
    skip
    rw [h1]
    simp only [ob_s]
    try simp only [] at h2
    rw [h2]
    simp only [ob_s, if_true, jn, s6]
  by_cases e17 : x = 17
  · obtain ⟨a, μ1, μ2, h1, h2, h3⟩ := o17 (ss (i + 1))
    refine ⟨μ2, h3, ?_⟩
    rw [if_neg e0, if_neg e1, if_neg e2, if_neg e3, if_neg e4, if_neg e5, if_neg e6, if_neg e7, if_neg e8, if_neg e9, if_neg e10, if_neg e11, if_neg e12, if_neg e13, if_neg e14, if_neg e15, if_neg e16, if_pos e17]
    simp only [s1, ob_s]
    rw [h1]
    simp only [s1, ob_s]
    try simp only [] at h2
    rw [h2]
    simp only [ob_s, if_true, jn, s6]
  by_cases e18 : x = 18
  · obtain ⟨a, μ1, μ2, h1, h2, h3⟩ := o18 (ss (i + 1)) (ss (i + 2))
    refine ⟨μ2, h3, ?_⟩
    rw [if_neg e0, if_neg e1, if_neg e2, if_neg e3, if_neg e4, if_neg e5, if_neg e6, if_neg e7, if_neg e8, if_neg e9, if_neg e10, if_neg e11, if_neg e12, if_neg e13, if_neg e14, if_neg e15, if_neg e16, if_neg e17, if_pos e18]
    simp only [s1, s2, ob_s]
    rw [h1]
    simp only [s1, s2, ob_s]
    try simp only [] at h2
    rw [h2]
    simp only [ob_s, if_true, jn, s6]
  by_cases e19 : x = 19
  · obtain ⟨a, μ2, h1, h2, h3⟩ := o19 (ss (i + 1))
    refine ⟨μ2, h3, ?_⟩
    rw [if_neg e0, if_neg e1, if_neg e2, if_neg e3, if_neg e4, if_neg e5, if_neg e6, if_neg e7, if_neg e8, if_neg e9, if_neg e10, if_neg e11, if_neg e12, if_neg e13, if_neg e14, if_neg e15, if_neg e16, if_neg e17, if_neg e18, if_pos e19]
    simp only [s1, ob_s]
    rw [h1]
    simp only [s1, ob_s]
    try simp only [] at h2
    rw [h2]
    simp only [ob_s, if_true, jn, s6]
  by_cases e20 : x = 20
  · obtain ⟨a, μ2, h1, h2, h3⟩ := o20 
    refine ⟨μ2, h3, ?_⟩
    rw [if_neg e0, if_neg e1, if_neg e2, if_neg e3, if_neg e4, if_neg e5, if_neg e6, if_neg e7, if_neg e8, if_neg e9, if_neg e10, if_neg e11, if_neg e12, if_neg e13, if_neg e14, if_neg e15, if_neg e16, if_neg e17, if_neg e18, if_neg e19, if_pos e20]
    skip
    rw [h1]
    simp only [ob_s]
    try simp only [] at h2
    rw [h2]
    simp only [ob_s, if_true, jn, s6]
  by_cases e21 : x = 21
  · obtain ⟨a, μ1, μ2, h1, h2, h3⟩ := o21 (ss (i + 1)) (ss (i + 2)) (ss (i + 3))
    refine ⟨μ2, h3, ?_⟩
    rw [if_neg e0, if_neg e1, if_neg e2, if_neg e3, if_neg e4, if_neg e5, if_neg e6, if_neg e7, if_neg e8, if_neg e9, if_neg e10, if_neg e11, if_neg e12, if_neg e13, if_neg e14, if_neg e15, if_neg e16, if_neg e17, if_neg e18, if_neg e19, if_neg e20, if_pos e21]
    simp only [s1, s2, s3, ob_s]
    rw [h1]
    simp only [s1, s2, s3, ob_s]
    try simp only [] at h2
    rw [h2]
    simp only [ob_s, if_true, jn, s6]
  by_cases e22 : x = 22
  · obtain ⟨a, μ2, h1, h2, h3⟩ := o22 (ss (i + 1))
    refine ⟨μ2, h3, ?_⟩
    rw [if_neg e0, if_neg e1, if_neg e2, if_neg e3, if_neg e4, if_neg e5, if_neg e6, if_neg e7, if_neg e8, if_neg e9, if_neg e10, if_neg e11, if_neg e12, if_neg e13, if_neg e14, if_neg e15, if_neg e16, if_neg e17, if_neg e18, if_neg e19, if_neg e20, if_neg e21, if_pos e22]
    simp only [s1, ob_s]
    rw [h1]
    simp only [s1, ob_s]
    try simp only [] at h2
    rw [h2]
    simp only [ob_s, if_true, jn, s6]
  by_cases e23 : x = 23
  · obtain ⟨a, μ1, μ2, h1, h2, h3⟩ := o23 (ss (i + 1)) (ss (i + 2))
    refine ⟨μ2, h3, ?_⟩
    rw [if_neg e0, if_neg e1, if_neg e2, if_neg e3, if_neg e4, if_neg e5, if_neg e6, if_neg e7, if_neg e8, if_neg e9, if_neg e10, if_neg e11, if_neg e12, if_neg e13, if_neg e14, if_neg e15, if_neg e16, if_neg e17, if_neg e18, if_neg e19, if_neg e20, if_neg e21, if_neg e22, if_pos e23]
    simp only [s1, s2, ob_s]
    rw [h1]
    simp only [s1, s2, ob_s]
    try simp only [] at h2
    rw [h2]
    simp only [ob_s, if_true, jn, s6]
  by_cases e24 : x = 24
  · obtain ⟨a, μ1, μ2, h1, h2, h3⟩ := o24 (ss (i + 1)) (ss (i + 2))
    refine ⟨μ2, h3, ?_⟩
    rw [if_neg e0, if_neg e1, if_neg e2, if_neg e3, if_neg e4, if_neg e5, if_neg e6, if_neg e7, if_neg e8, if_neg e9, if_neg e10, if_neg e11, if_neg e12, if_neg e13, if_neg e14, if_neg e15, if_neg e16, if_neg e17, if_neg e18, if_neg e19, if_neg e20, if_neg e21, if_neg e22, if_neg e23, if_pos e24]
    simp only [s1, s2, ob_s]
    rw [h1]
    simp only [s1, s2, ob_s]
    try simp only [] at h2
    rw [h2]
    simp only [ob_s, if_true, jn, s6]
  by_cases e25 : x = 25
  · obtain ⟨a, μ2, h1, h2, h3⟩ := o25 (ss (i + 1))
    refine ⟨μ2, h3, ?_⟩
    rw [if_neg e0, if_neg e1, if_neg e2, if_neg e3, if_neg e4, if_neg e5, if_neg e6, if_neg e7, if_neg e8, if_neg e9, if_neg e10, if_neg e11, if_neg e12, if_neg e13, if_neg e14, if_neg e15, if_neg e16, if_neg e17, if_neg e18, if_neg e19, if_neg e20, if_neg e21, if_neg e22, if_neg e23, if_neg e24, if_pos e25]
    simp only [s1, ob_s]
    rw [h1]
    simp only [s1, ob_s]
    try simp only [] at h2
    rw [h2]
    simp only [ob_s, if_true, jn, s6]
  by_cases e26 : x = 26
  · obtain ⟨a, μ2, h1, h2, h3⟩ := o26 (ss (i + 1))
    refine ⟨μ2, h3, ?_⟩
    rw [if_neg e0, if_neg e1, if_neg e2, if_neg e3, if_neg e4, if_neg e5, if_neg e6, if_neg e7, if_neg e8, if_neg e9, if_neg e10, if_neg e11, if_neg e12, if_neg e13, if_neg e14, if_neg e15, if_neg e16, if_neg e17, if_neg e18, if_neg e19, if_neg e20, if_neg e21, if_neg e22, if_neg e23, if_neg e24, if_neg e25, if_pos e26]
    simp only [s1, ob_s]
    rw [h1]
    simp only [s1, ob_s]
    try simp only [] at h2
    rw [h2]
    simp only [ob_s, if_true, jn, s6]
  by_cases e27 : x = 27
  · obtain ⟨a, μ2, h1, h2, h3⟩ := o27 
    refine ⟨μ2, h3, ?_⟩
    rw [if_neg e0, if_neg e1, if_neg e2, if_neg e3, if_neg e4, if_neg e5, if_neg e6, if_neg e7, if_neg e8, if_neg e9, if_neg e10, if_neg e11, if_neg e12, if_neg e13, if_neg e14, if_neg e15, if_neg e16, if_neg e17, if_neg e18, if_neg e19, if_neg e20, if_neg e21, if_neg e22, if_neg e23, if_neg e24, if_neg e25, if_neg e26, if_pos e27]
    skip
    rw [h1]
    simp only [ob_s]
    try simp only [] at h2
    rw [h2]
    simp only [ob_s, if_true, jn, s6]
  refine ⟨ν, hν, ?_⟩
  rw [if_neg e0, if_neg e1, if_neg e2, if_neg e3, if_neg e4, if_neg e5, if_neg e6, if_neg e7, if_neg e8, if_neg e9, if_neg e10, if_neg e11, if_neg e12, if_neg e13, if_neg e14, if_neg e15, if_neg e16, if_neg e17, if_neg e18, if_neg e19, if_neg e20, if_neg e21, if_neg e22, if_neg e23, if_neg e24, if_neg e25, if_neg e26, if_neg e27]
  simp only [ob_s, jn, s6]
theorem law_loop {Inv : MT → Prop} (hop : Ops Inv) {ss : Nat → Int32} {L : Nat} (hL : L ≤ 3072) : ∀ (n i : Nat) (ν : MT), Inv ν → L ≤ i + n → i ≤ L + 6 → ∀ N, n < N → ∃ ν', loop (lawB ss L) N (nI i, ν) = some (.inr ν') := by
  intro n
  induction n with
  | zero =>
    intro i ν hν h1 h2 N hN
    obtain ⟨N, rfl⟩ : ∃ M, N = M + 1 := ⟨N - 1, by omega⟩
    refine ⟨ν, ?_⟩
    have hlt : (Int32.ofNat L) - 6 < nI i := by
      rw [Int32.lt_iff_toInt_lt, nI_toInt (by omega)]
      have e : ((nI L) - nI 6).toInt = (L : Int) - 6 := pk_sub_toInt (by omega) (by omega)
      have e2 : (Int32.ofNat L - 6).toInt = (L : Int) - 6 := e
      rw [e2]
      omega
    have hb : lawB ss L (nI i, ν) = some (.inr (.inr ν)) := by
      unfold lawB
      simp only []
      rw [if_pos hlt]
    show (lawB ss L (nI i, ν)).bind _ = _
    rw [hb]
    rfl
  | succ n ih =>
    intro i ν hν h1 h2 N hN
    obtain ⟨N, rfl⟩ : ∃ M, N = M + 1 := ⟨N - 1, by omega⟩
    by_cases hi : i + 5 < L
    · obtain ⟨ν', hν', hb⟩ := law_body hop hi hL hν (ss := ss)
      obtain ⟨ν2, h⟩ := ih (i + 6) ν' hν' (by omega) (by omega) N (by omega)
      refine ⟨ν2, ?_⟩
      show (lawB ss L (nI i, ν)).bind _ = _
      rw [hb]
      exact h
    · refine ⟨ν, ?_⟩
      have hlt : (Int32.ofNat L) - 6 < nI i := by
        rw [Int32.lt_iff_toInt_lt, nI_toInt (by omega)]
        have e : ((nI L) - nI 6).toInt = (L : Int) - 6 := pk_sub_toInt (by omega) (by omega)
        have e2 : (Int32.ofNat L - 6).toInt = (L : Int) - 6 := e
        rw [e2]
        omega
      have hb : lawB ss L (nI i, ν) = some (.inr (.inr ν)) := by
        unfold lawB
        simp only []
        rw [if_pos hlt]
      show (lawB ss L (nI i, ν)).bind _ = _
      rw [hb]
      rfl
theorem law_of {Inv : MT → Prop} (hop : Ops Inv) (h0 : Inv μf) : ∀ (ss : Nat → Int32) (L : Nat), L ≤ 3072 → ∃ ν, m_L_law Zf 127 ss L 0 106 μf = some (1, ν) := by
  intro ss L hL
  rw [lawB_eq]
  obtain ⟨ν', h⟩ := law_loop hop hL (ss := ss) (L + 1) 0 μf h0 (by omega) (by omega) LN (by show L + 1 < 1000000; omega)
  rw [nI_0] at h
  exact ⟨ν', by rw [h]; rfl⟩
