/-! ===== HedgePark: within, the method ===== -/
/-- the rows of ways that a walk by steps leaves -/
def wsT (σ : St) (C K F : Int → Int) : St := upA (upA (upA σ 1000 144 C) 1002 144 K) 1001 144 F
theorem wsT_t {σ : St} {C K F : Int → Int} {t o : Nat} (h : t < 1000 ∨ 1002 < t) : wsT σ C K F t o = σ t o := by
  unfold wsT
  rw [upA_t (by omega), upA_t (by omega), upA_t (by omega)]
theorem wsT_0 {σ : St} {C K F : Int → Int} : wsT σ C K F 1000 144 = C := by
  unfold wsT
  rw [upA_t (by omega), upA_t (by omega), upA_s]
theorem wsT_1 {σ : St} {C K F : Int → Int} : wsT σ C K F 1001 144 = F := by
  unfold wsT
  rw [upA_s]
theorem wsT_2 {σ : St} {C K F : Int → Int} : wsT σ C K F 1002 144 = K := by
  unfold wsT
  rw [upA_t (by omega), upA_s]
theorem wsT_u {σ : St} {C K F K' F' : Int → Int} : upA (upA (wsT σ C K F) 1002 144 K') 1001 144 F' = wsT σ C K' F' := by
  unfold wsT
  rw [upA_comm (t := 1001) (t' := 1002) (by omega), upA_upA, upA_upA]
theorem wsT_i {σ : St} {C F : Int → Int} : upA (upA σ 1000 144 C) 1001 144 F = wsT σ C (σ 1002 144) F := by
  unfold wsT
  have : upA (upA σ 1000 144 C) 1002 144 (σ 1002 144) = upA σ 1000 144 C := by
    have e : σ 1002 144 = upA σ 1000 144 C 1002 144 := (upA_t (by omega)).symm
    rw [e, upA_self]
  rw [this]
theorem geo_ws {σ : St} {W H : Int} {C K F : Int → Int} (h : geo σ 3 W H) : geo (wsT σ C K F) 3 W H :=
  geo_t h (wsT_t (by omega)) (wsT_t (by omega)) (wsT_t (by omega)) (wsT_t (by omega)) (wsT_t (by omega)) (wsT_t (by omega))
