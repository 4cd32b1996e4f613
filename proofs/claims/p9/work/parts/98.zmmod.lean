/-! the model's reader: sorts of clauses, and which stood -/
def fl_ (ob os : Bool) : Int32 := nI ((if ob then 1 else 0) + (if os then 2 else 0))
theorem fl_get : ∀ ob os : Bool, (((fl_ ob os) >>> ((0 : Int32) &&& 31)) &&& 1 = 1 ↔ ob = true) ∧ (((fl_ ob os) >>> ((1 : Int32) &&& 31)) &&& 1 = 1 ↔ os = true) := by decide +kernel
theorem fl_set : ∀ ob os : Bool, fl_ ob os ||| ((1 : Int32) <<< ((0 : Int32) &&& 31)) = fl_ true os ∧ fl_ ob os ||| ((1 : Int32) <<< ((1 : Int32) &&& 31)) = fl_ ob true := by decide +kernel
theorem srt_iff : ∀ kd, kd < 37 → (0 ≤ srt_ kd ↔ 19 ≤ kd ∧ kd ≤ 23) ∧ (2 ≤ srt_ kd ↔ 21 ≤ kd ∧ kd ≤ 23) ∧ (srt_ kd = 2 ↔ kd = 21) ∧ (srt_ kd ≤ 2 ↔ ¬ (kd = 22 ∨ kd = 23)) ∧ (srt_ kd = 0 ↔ kd = 19) ∧ (srt_ kd = 3 ↔ kd = 22) ∧ (srt_ kd = 1 ↔ kd = 20) := by decide +kernel
/-- the ; behind a clause -/
theorem semi_v {B : Nat → Int} {n p : Nat} {u : Sg} {Q : Int32 × Sg → Prop} (hp : TPm_ B n u) (ht : Mt_ B n p u) (h0 : ∀ t nx, NT_ u t → Kd_ B 16 p (0, nx) → Mt_ B n nx t → Q (0, t)) (h1 : ∀ st, Kd_ B 16 p (1, st) → gi u 27 8 = nI st → Q (1, u)) : pf_ (if (gi u 27 9) = 59 then bnv (fX10_nextToken u) fun s_21 => some ((0 : Int32), s_21) else some (1, u)) Q := by
  obtain ⟨kd, st, nx, nm, tk, hnx, t8, t7, mk⟩ := ht
  have hk := Tk_37 tk
  obtain ⟨s43, s45, s42, s47, s41, s59, s40, s1, s0⟩ := MK_sg mk (show kd < 40 by omega)
  refine pf_ifi s59 (fun e => pf_bnv (next10_v hp t7 hnx) (fun t h => pf_some (h0 t nx h.1 ⟨kd, st, nx, nm, tk, by rw [if_pos e]⟩ h.2))) (fun e => pf_some (h1 st ⟨kd, st, nx, nm, tk, by rw [if_neg e]⟩ t8))
