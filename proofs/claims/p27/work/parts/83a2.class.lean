/-! ===== the class's calls, between ===== -/
section KL
variable {l : Launch} {ρ : ezq_E} {B : Nat} {xa : Nat → Option Nat} {Hb : Heap} {D : va_G} {cA : Nat → ClassId} {d : Nat} {g : Nat → ezq_C} {s : Int} {a : Int → Int} {t : Int} {b : Int → Int} {y z : ezp_D}
theorem ezl_x105 {a1 a2 : Int} (hJ : ezl_J s a t b y z g) (hd : 3 ≤ d) (ha1 : ezw_in a1) (ha2 : ezw_in a2) : ezw_C l ρ B xa Hb D cA 105 d [ezw_p 0, ezw_i a1, ezw_i a2] g (fun v g' => (∃ u, some (ezw_i u) = v) ∧ ezl_J s a t b y z g') := by
  obtain ⟨e, F, A, rfl, hS, hs, hy, hM⟩ := hJ
  obtain ⟨b1, b2⟩ := e
  cases b1
  · exact ezw_Cmono (ezs_m105_0_f (fz := ezl_fz) (F0 := F) (A0 := A) ⟨hS, fun _ _ => ⟨rfl, rfl⟩⟩ hd ha1 ha2) (fun v g' h => ezl_bp hS hs hy hM ezl_ri h)
  · exact ezw_Cmono (ezs_m105_0_t (fz := ezl_fz) (F0 := F) (A0 := A) ⟨hS, fun _ _ => ⟨rfl, rfl⟩⟩ hd ha1 ha2) (fun v g' h => ezl_bp hS hs hy hM ezl_ri h)
theorem ezl_x110 {a1 a2 : Int} (hJ : ezl_J s a t b y z g) (hd : 1 ≤ d) (ha1 : ezw_in a1) (ha2 : ezw_in a2) : ezw_C l ρ B xa Hb D cA 110 d [ezw_p 0, ezw_i a1, ezw_i a2] g (fun v g' => (∃ u, some (ezw_i u) = v) ∧ ezl_J s a t b y z g') := by
  obtain ⟨e, F, A, rfl, hS, hs, hy, hM⟩ := hJ
  obtain ⟨b1, b2⟩ := e
  cases b1
  · exact ezw_Cmono (ezs_m110_0_f (fz := ezl_fz) (F0 := F) (A0 := A) ⟨hS, fun _ _ => ⟨rfl, rfl⟩⟩ hd ha1 ha2) (fun v g' h => ezl_bp hS hs hy hM ezl_ri h)
  · exact ezw_Cmono (ezs_m110_0_t (fz := ezl_fz) (F0 := F) (A0 := A) ⟨hS, fun _ _ => ⟨rfl, rfl⟩⟩ hd ha1 ha2) (fun v g' h => ezl_bp hS hs hy hM ezl_ri h)
theorem ezl_x111 {a1 a2 a3 : Int} (hJ : ezl_J s a t b y z g) (hd : 3 ≤ d) (ha1 : ezw_in a1) (ha2 : ezw_in a2) (ha3 : ezw_in a3) : ezw_C l ρ B xa Hb D cA 111 d [ezw_p 0, ezw_i a1, ezw_i a2, ezw_i a3] g (fun v g' => (∃ u, some (ezw_i u) = v) ∧ ezl_J s a t b y z g') := by
  obtain ⟨e, F, A, rfl, hS, hs, hy, hM⟩ := hJ
  obtain ⟨b1, b2⟩ := e
  cases b1
  · exact ezw_Cmono (ezs_m111_0_f (fz := ezl_fz) (F0 := F) (A0 := A) ⟨hS, fun _ _ => ⟨rfl, rfl⟩⟩ hd ha1 ha2 ha3) (fun v g' h => ezl_bp hS hs hy hM ezl_ri h)
  · exact ezw_Cmono (ezs_m111_0_t (fz := ezl_fz) (F0 := F) (A0 := A) ⟨hS, fun _ _ => ⟨rfl, rfl⟩⟩ hd ha1 ha2 ha3) (fun v g' h => ezl_bp hS hs hy hM ezl_ri h)
theorem ezl_x117 {a1 a2 a3 : Int} (hJ : ezl_J s a t b y z g) (hd : 6 ≤ d) (ha1 : ezw_in a1) (ha2 : ezw_in a2) (ha3 : ezw_in a3) : ezw_C l ρ B xa Hb D cA 117 d [ezw_p 0, ezw_i a1, ezw_i a2, ezw_i a3] g (fun v g' => (∃ u, some (ezw_i u) = v) ∧ ezl_J s a t b y z g') := by
  obtain ⟨e, F, A, rfl, hS, hs, hy, hM⟩ := hJ
  obtain ⟨b1, b2⟩ := e
  cases b1
  · exact ezw_Cmono (ezs_m117_0_f (fz := ezl_fz) (F0 := F) (A0 := A) ⟨hS, fun _ _ => ⟨rfl, rfl⟩⟩ hd (fun q h0 h1 => ezl_fz0 q (by omega) (by omega)) ha1 ha2 ha3) (fun v g' h => ezl_b hs hy hM ezl_ri h)
  · exact ezw_Cmono (ezs_m117_0_t (fz := ezl_fz) (F0 := F) (A0 := A) ⟨hS, fun _ _ => ⟨rfl, rfl⟩⟩ hd (fun q h0 h1 => ezl_fz0 q (by omega) (by omega)) ha1 ha2 ha3) (fun v g' h => ezl_b hs hy hM ezl_ri h)
theorem ezl_x133 (hJ : ezl_J s a t b y z g) (hd : 6 ≤ d) : ezw_C l ρ B xa Hb D cA 133 d [ezw_p 0] g (fun v g' => (∃ u, some (ezw_i u) = v) ∧ ezl_J s a t b y z g') := by
  obtain ⟨e, F, A, rfl, hS, hs, hy, hM⟩ := hJ
  obtain ⟨b1, b2⟩ := e
  cases b1
  · exact ezw_Cmono (ezs_m133_0_f (fz := ezl_fz) (F0 := F) (A0 := A) ⟨hS, fun _ _ => ⟨rfl, rfl⟩⟩ hd (fun q h0 h1 => ezl_fz0 q (by omega) (by omega))) (fun v g' h => ezl_b hs hy hM ezl_ri h)
  · exact ezw_Cmono (ezs_m133_0_t (fz := ezl_fz) (F0 := F) (A0 := A) ⟨hS, fun _ _ => ⟨rfl, rfl⟩⟩ hd (fun q h0 h1 => ezl_fz0 q (by omega) (by omega))) (fun v g' h => ezl_b hs hy hM ezl_ri h)
theorem ezl_x134 (hJ : ezl_J s a t b y z g) (hd : 6 ≤ d) : ezw_C l ρ B xa Hb D cA 134 d [ezw_p 0] g (fun v g' => (∃ u, some (ezw_i u) = v) ∧ ezl_J s a t b y z g') := by
  obtain ⟨e, F, A, rfl, hS, hs, hy, hM⟩ := hJ
  obtain ⟨b1, b2⟩ := e
  cases b1
  · exact ezw_Cmono (ezs_m134_0_f (fz := ezl_fz) (F0 := F) (A0 := A) ⟨hS, fun _ _ => ⟨rfl, rfl⟩⟩ hd (fun q h0 h1 => ezl_fz0 q (by omega) (by omega))) (fun v g' h => ezl_b hs hy hM ezl_rz h)
  · exact ezw_Cmono (ezs_m134_0_t (fz := ezl_fz) (F0 := F) (A0 := A) ⟨hS, fun _ _ => ⟨rfl, rfl⟩⟩ hd (fun q h0 h1 => ezl_fz0 q (by omega) (by omega))) (fun v g' h => ezl_b hs hy hM ezl_rz h)
theorem ezl_x135 {a1 a2 : Int} (hJ : ezl_J s a t b y z g) (hd : 6 ≤ d) (ha1 : ezw_in a1) (ha2 : ezw_in a2) : ezw_C l ρ B xa Hb D cA 135 d [ezw_p 0, ezw_i a1, ezw_i a2] g (fun v g' => (∃ u, some (ezw_i u) = v) ∧ ezl_J s a t b y z g') := by
  obtain ⟨e, F, A, rfl, hS, hs, hy, hM⟩ := hJ
  obtain ⟨b1, b2⟩ := e
  cases b1
  · exact ezw_Cmono (ezs_m135_0_f (fz := ezl_fz) (F0 := F) (A0 := A) ⟨hS, fun _ _ => ⟨rfl, rfl⟩⟩ hd (fun q h0 h1 => ezl_fz0 q (by omega) (by omega)) ha1 ha2) (fun v g' h => ezl_b hs hy hM ezl_ri h)
  · exact ezw_Cmono (ezs_m135_0_t (fz := ezl_fz) (F0 := F) (A0 := A) ⟨hS, fun _ _ => ⟨rfl, rfl⟩⟩ hd (fun q h0 h1 => ezl_fz0 q (by omega) (by omega)) ha1 ha2) (fun v g' h => ezl_b hs hy hM ezl_ri h)
theorem ezl_x136 {a1 a2 : Int} (hJ : ezl_J s a t b y z g) (hd : 6 ≤ d) (ha1 : ezw_in a1) (ha2 : ezw_in a2) : ezw_C l ρ B xa Hb D cA 136 d [ezw_p 0, ezw_i a1, ezw_i a2] g (fun v g' => (∃ u, some (ezw_i u) = v) ∧ ezl_J s a t b y z g') := by
  obtain ⟨e, F, A, rfl, hS, hs, hy, hM⟩ := hJ
  obtain ⟨b1, b2⟩ := e
  cases b1
  · exact ezw_Cmono (ezs_m136_0_f (fz := ezl_fz) (F0 := F) (A0 := A) ⟨hS, fun _ _ => ⟨rfl, rfl⟩⟩ hd (fun q h0 h1 => ezl_fz0 q (by omega) (by omega)) ha1 ha2) (fun v g' h => ezl_b hs hy hM ezl_rz h)
  · exact ezw_Cmono (ezs_m136_0_t (fz := ezl_fz) (F0 := F) (A0 := A) ⟨hS, fun _ _ => ⟨rfl, rfl⟩⟩ hd (fun q h0 h1 => ezl_fz0 q (by omega) (by omega)) ha1 ha2) (fun v g' h => ezl_b hs hy hM ezl_rz h)
theorem ezl_x137 {a1 : Int} (hJ : ezl_J s a t b y z g) (hd : 6 ≤ d) (ha1 : ezw_in a1) : ezw_C l ρ B xa Hb D cA 137 d [ezw_p 0, ezw_i a1] g (fun v g' => (∃ u, some (ezw_i u) = v) ∧ ezl_J s a t b y z g') := by
  obtain ⟨e, F, A, rfl, hS, hs, hy, hM⟩ := hJ
  obtain ⟨b1, b2⟩ := e
  cases b1
  · exact ezw_Cmono (ezs_m137_0_f (fz := ezl_fz) (F0 := F) (A0 := A) ⟨hS, fun _ _ => ⟨rfl, rfl⟩⟩ hd (fun q h0 h1 => ezl_fz0 q (by omega) (by omega)) ha1) (fun v g' h => ezl_b hs hy hM ezl_ri h)
  · exact ezw_Cmono (ezs_m137_0_t (fz := ezl_fz) (F0 := F) (A0 := A) ⟨hS, fun _ _ => ⟨rfl, rfl⟩⟩ hd (fun q h0 h1 => ezl_fz0 q (by omega) (by omega)) ha1) (fun v g' h => ezl_b hs hy hM ezl_ri h)
theorem ezl_x138 (hJ : ezl_J s a t b y z g) (hd : 2 ≤ d) : ezw_C l ρ B xa Hb D cA 138 d [ezw_p 0] g (fun v g' => (∃ u, some (ezw_i u) = v) ∧ ezl_J s a t b y z g') := by
  obtain ⟨e, F, A, rfl, hS, hs, hy, hM⟩ := hJ
  obtain ⟨b1, b2⟩ := e
  cases b1
  · exact ezw_Cmono (ezs_m138_0_f (fz := ezl_fz) (F0 := F) (A0 := A) ⟨hS, fun _ _ => ⟨rfl, rfl⟩⟩ hd (fun q h0 h1 => ezl_fz0 q (by omega) (by omega))) (fun v g' h => ezl_b hs hy hM ezl_rz h)
  · exact ezw_Cmono (ezs_m138_0_t (fz := ezl_fz) (F0 := F) (A0 := A) ⟨hS, fun _ _ => ⟨rfl, rfl⟩⟩ hd (fun q h0 h1 => ezl_fz0 q (by omega) (by omega))) (fun v g' h => ezl_b hs hy hM ezl_rz h)
theorem ezl_x141 {a1 : Int} (hJ : ezl_J s a t b y z g) (hd : 6 ≤ d) (ha1 : ezw_in a1) : ezw_C l ρ B xa Hb D cA 141 d [ezw_p 0, ezw_i a1] g (fun v g' => (∃ u, some (ezw_i u) = v) ∧ ezl_J s a t b y z g') := by
  obtain ⟨e, F, A, rfl, hS, hs, hy, hM⟩ := hJ
  obtain ⟨b1, b2⟩ := e
  cases b1
  · cases b2
    · exact ezw_Cmono (ezs_m141_0_ff (fz := ezl_fz) (F0 := F) (A0 := A) ⟨hS, fun _ _ => ⟨rfl, rfl⟩⟩ hd (fun q h0 h1 => ezl_fz0 q (by omega) (by omega)) ha1) (fun v g' h => ezl_b hs hy hM ezl_ri h)
    · exact ezw_Cmono (ezs_m141_0_ft (fz := ezl_fz) (F0 := F) (A0 := A) ⟨hS, fun _ _ => ⟨rfl, rfl⟩⟩ hd (fun q h0 h1 => ezl_fz0 q (by omega) (by omega)) ha1) (fun v g' h => ezl_b hs hy hM ezl_ri h)
  · cases b2
    · exact ezw_Cmono (ezs_m141_0_tf (fz := ezl_fz) (F0 := F) (A0 := A) ⟨hS, fun _ _ => ⟨rfl, rfl⟩⟩ hd (fun q h0 h1 => ezl_fz0 q (by omega) (by omega)) ha1) (fun v g' h => ezl_b hs hy hM ezl_ri h)
    · exact ezw_Cmono (ezs_m141_0_tt (fz := ezl_fz) (F0 := F) (A0 := A) ⟨hS, fun _ _ => ⟨rfl, rfl⟩⟩ hd (fun q h0 h1 => ezl_fz0 q (by omega) (by omega)) ha1) (fun v g' h => ezl_b hs hy hM ezl_ri h)
theorem ezl_x145 (hJ : ezl_J s a t b y z g) (hd : 3 ≤ d) : ezw_C l ρ B xa Hb D cA 145 d [ezw_p 0] g (fun v g' => (∃ u, some (ezw_i u) = v) ∧ ezl_J s a t b y z g') := by
  obtain ⟨e, F, A, rfl, hS, hs, hy, hM⟩ := hJ
  obtain ⟨b1, b2⟩ := e
  cases b1
  · exact ezw_Cmono (ezs_m145_0_f (fz := ezl_fz) (F0 := F) (A0 := A) ⟨hS, fun _ _ => ⟨rfl, rfl⟩⟩ hd) (fun v g' h => ezl_bp hS hs hy hM ezl_ri h)
  · exact ezw_Cmono (ezs_m145_0_t (fz := ezl_fz) (F0 := F) (A0 := A) ⟨hS, fun _ _ => ⟨rfl, rfl⟩⟩ hd) (fun v g' h => ezl_bp hS hs hy hM ezl_ri h)
theorem ezl_x146 {a1 a2 : Int} (hJ : ezl_J s a t b y z g) (hd : 22 ≤ d) (ha1 : ezw_in a1) (ha2 : ezw_in a2) : ezw_C l ρ B xa Hb D cA 146 d [ezw_p 0, ezw_i a1, ezw_i a2] g (fun v g' => (∃ u, some (ezw_i u) = v) ∧ ezl_J s a t b y z g') := by
  obtain ⟨e, F, A, rfl, hS, hs, hy, hM⟩ := hJ
  obtain ⟨b1, b2⟩ := e
  cases b1
  · exact ezw_Cmono (ezs_m146_0_f (fz := ezl_fz) (F0 := F) (A0 := A) ⟨hS, fun _ _ => ⟨rfl, rfl⟩⟩ hd (fun q h0 h1 => ezl_fz0 q (by omega) (by omega)) ha1 ha2) (fun v g' h => ezl_b hs hy hM ezl_ri h)
  · exact ezw_Cmono (ezs_m146_0_t (fz := ezl_fz) (F0 := F) (A0 := A) ⟨hS, fun _ _ => ⟨rfl, rfl⟩⟩ hd (fun q h0 h1 => ezl_fz0 q (by omega) (by omega)) ha1 ha2) (fun v g' h => ezl_b hs hy hM ezl_ri h)
theorem ezl_x156 {a1 a2 : Int} (hJ : ezl_J s a t b y z g) (hd : 2 ≤ d) (ha1 : ezw_in a1) (ha2 : ezw_in a2) : ezw_C l ρ B xa Hb D cA 156 d [ezw_p 0, ezw_i a1, ezw_i a2] g (fun v g' => (∃ u, some (ezw_i u) = v) ∧ ezl_J s a t b y z g') := by
  obtain ⟨e, F, A, rfl, hS, hs, hy, hM⟩ := hJ
  obtain ⟨b1, b2⟩ := e
  cases b1
  · exact ezw_Cmono (ezs_m156_0_f (fz := ezl_fz) (F0 := F) (A0 := A) ⟨hS, fun _ _ => ⟨rfl, rfl⟩⟩ hd (fun q h0 h1 => ezl_fz0 q (by omega) (by omega)) ha1 ha2) (fun v g' h => ezl_b hs hy hM ezl_rz h)
  · exact ezw_Cmono (ezs_m156_0_t (fz := ezl_fz) (F0 := F) (A0 := A) ⟨hS, fun _ _ => ⟨rfl, rfl⟩⟩ hd (fun q h0 h1 => ezl_fz0 q (by omega) (by omega)) ha1 ha2) (fun v g' h => ezl_b hs hy hM ezl_rz h)
theorem ezl_x159 (hJ : ezl_J s a t b y z g) (hd : 3 ≤ d) : ezw_C l ρ B xa Hb D cA 159 d [ezw_p 0] g (fun v g' => (∃ u, some (ezw_i u) = v) ∧ ezl_J s a t b y z g') := by
  obtain ⟨e, F, A, rfl, hS, hs, hy, hM⟩ := hJ
  obtain ⟨b1, b2⟩ := e
  cases b1
  · exact ezw_Cmono (ezs_m159_0_f (fz := ezl_fz) (F0 := F) (A0 := A) ⟨hS, fun _ _ => ⟨rfl, rfl⟩⟩ hd) (fun v g' h => ezl_bp hS hs hy hM ezl_ri h)
  · exact ezw_Cmono (ezs_m159_0_t (fz := ezl_fz) (F0 := F) (A0 := A) ⟨hS, fun _ _ => ⟨rfl, rfl⟩⟩ hd) (fun v g' h => ezl_bp hS hs hy hM ezl_ri h)
theorem ezl_x162 {a1 : Int} (hJ : ezl_J s a t b y z g) (hd : 4 ≤ d) (ha1 : ezw_in a1) : ezw_C l ρ B xa Hb D cA 162 d [ezw_p 0, ezw_i a1] g (fun v g' => (∃ u, some (ezw_i u) = v) ∧ ezl_J s a t b y z g') := by
  obtain ⟨e, F, A, rfl, hS, hs, hy, hM⟩ := hJ
  obtain ⟨b1, b2⟩ := e
  cases b1
  · exact ezw_Cmono (ezs_m162_0_f (fz := ezl_fz) (F0 := F) (A0 := A) ⟨hS, fun _ _ => ⟨rfl, rfl⟩⟩ hd ha1) (fun v g' h => ezl_bp hS hs hy hM ezl_ri h)
  · exact ezw_Cmono (ezs_m162_0_t (fz := ezl_fz) (F0 := F) (A0 := A) ⟨hS, fun _ _ => ⟨rfl, rfl⟩⟩ hd ha1) (fun v g' h => ezl_bp hS hs hy hM ezl_ri h)
theorem ezl_x165 (hJ : ezl_J s a t b y z g) (hd : 5 ≤ d) : ezw_C l ρ B xa Hb D cA 165 d [ezw_p 0] g (fun v g' => (∃ u, some (ezw_i u) = v) ∧ ezl_J s a t b y z g') := by
  obtain ⟨e, F, A, rfl, hS, hs, hy, hM⟩ := hJ
  obtain ⟨b1, b2⟩ := e
  cases b1
  · exact ezw_Cmono (ezs_m165_0_f (fz := ezl_fz) (F0 := F) (A0 := A) ⟨hS, fun _ _ => ⟨rfl, rfl⟩⟩ hd) (fun v g' h => ezl_bp hS hs hy hM ezl_ri h)
  · exact ezw_Cmono (ezs_m165_0_t (fz := ezl_fz) (F0 := F) (A0 := A) ⟨hS, fun _ _ => ⟨rfl, rfl⟩⟩ hd) (fun v g' h => ezl_bp hS hs hy hM ezl_ri h)
theorem ezl_x169 {a1 a2 a3 : Int} (hJ : ezl_J s a t b y z g) (hd : 3 ≤ d) (ha1 : ezw_in a1) (ha2 : ezw_in a2) (ha3 : ezw_in a3) : ezw_C l ρ B xa Hb D cA 169 d [ezw_p 0, ezw_i a1, ezw_i a2, ezw_i a3] g (fun v g' => (∃ u, some (ezw_i u) = v) ∧ ezl_J s a t b y z g') := by
  obtain ⟨e, F, A, rfl, hS, hs, hy, hM⟩ := hJ
  obtain ⟨b1, b2⟩ := e
  cases b1
  · exact ezw_Cmono (ezs_m169_0_f (fz := ezl_fz) (F0 := F) (A0 := A) ⟨hS, fun _ _ => ⟨rfl, rfl⟩⟩ hd ha1 ha2 ha3) (fun v g' h => ezl_bp hS hs hy hM ezl_ri h)
  · exact ezw_Cmono (ezs_m169_0_t (fz := ezl_fz) (F0 := F) (A0 := A) ⟨hS, fun _ _ => ⟨rfl, rfl⟩⟩ hd ha1 ha2 ha3) (fun v g' h => ezl_bp hS hs hy hM ezl_ri h)
theorem ezl_x172 {a1 a2 : Int} (hJ : ezl_J s a t b y z g) (hd : 5 ≤ d) (ha1 : ezw_in a1) (ha2 : ezw_in a2) : ezw_C l ρ B xa Hb D cA 172 d [ezw_p 0, ezw_i a1, ezw_i a2] g (fun v g' => (∃ u, some (ezw_i u) = v) ∧ ezl_J s a t b y z g') := by
  obtain ⟨e, F, A, rfl, hS, hs, hy, hM⟩ := hJ
  obtain ⟨b1, b2⟩ := e
  cases b1
  · exact ezw_Cmono (ezs_m172_0_f (fz := ezl_fz) (F0 := F) (A0 := A) ⟨hS, fun _ _ => ⟨rfl, rfl⟩⟩ hd (fun q h0 h1 => ezl_fz0 q (by omega) (by omega)) ha1 ha2) (fun v g' h => ezl_b hs hy hM ezl_ri h)
  · exact ezw_Cmono (ezs_m172_0_t (fz := ezl_fz) (F0 := F) (A0 := A) ⟨hS, fun _ _ => ⟨rfl, rfl⟩⟩ hd (fun q h0 h1 => ezl_fz0 q (by omega) (by omega)) ha1 ha2) (fun v g' h => ezl_b hs hy hM ezl_ri h)
theorem ezl_x176 (hJ : ezl_J s a t b y z g) (hd : 4 ≤ d) : ezw_C l ρ B xa Hb D cA 176 d [ezw_p 0] g (fun v g' => (∃ u, some (ezw_i u) = v) ∧ ezl_J s a t b y z g') := by
  obtain ⟨e, F, A, rfl, hS, hs, hy, hM⟩ := hJ
  obtain ⟨b1, b2⟩ := e
  cases b1
  · exact ezw_Cmono (ezs_m176_0_f (fz := ezl_fz) (F0 := F) (A0 := A) ⟨hS, fun _ _ => ⟨rfl, rfl⟩⟩ hd) (fun v g' h => ezl_bp hS hs hy hM ezl_ri h)
  · exact ezw_Cmono (ezs_m176_0_t (fz := ezl_fz) (F0 := F) (A0 := A) ⟨hS, fun _ _ => ⟨rfl, rfl⟩⟩ hd) (fun v g' h => ezl_bp hS hs hy hM ezl_ri h)
theorem ezl_x189 {a1 a2 : Int} (hJ : ezl_J s a t b y z g) (hd : 4 ≤ d) (ha1 : ezw_in a1) (ha2 : ezw_in a2) : ezw_C l ρ B xa Hb D cA 189 d [ezw_p 0, ezw_i a1, ezw_i a2] g (fun v g' => (∃ u, some (ezw_i u) = v) ∧ ezl_J s a t b y z g') := by
  obtain ⟨e, F, A, rfl, hS, hs, hy, hM⟩ := hJ
  obtain ⟨b1, b2⟩ := e
  cases b1
  · exact ezw_Cmono (ezs_m189_0_f (fz := ezl_fz) (F0 := F) (A0 := A) ⟨hS, fun _ _ => ⟨rfl, rfl⟩⟩ hd (fun q h0 h1 => ezl_fz0 q (by omega) (by omega)) ha1 ha2) (fun v g' h => ezl_b hs hy hM ezl_ri h)
  · exact ezw_Cmono (ezs_m189_0_t (fz := ezl_fz) (F0 := F) (A0 := A) ⟨hS, fun _ _ => ⟨rfl, rfl⟩⟩ hd (fun q h0 h1 => ezl_fz0 q (by omega) (by omega)) ha1 ha2) (fun v g' h => ezl_b hs hy hM ezl_ri h)
theorem ezl_x195 {a1 a2 a3 a4 : Int} (hJ : ezl_J s a t b y z g) (hd : 23 ≤ d) (ha1 : ezw_in a1) (ha2 : ezw_in a2) (ha3 : ezw_in a3) (ha4 : ezw_in a4) : ezw_C l ρ B xa Hb D cA 195 d [ezw_p 0, ezw_i a1, ezw_i a2, ezw_i a3, ezw_i a4] g (fun v g' => (∃ u, some (ezw_i u) = v) ∧ ezl_J s a t b y z g') := by
  obtain ⟨e, F, A, rfl, hS, hs, hy, hM⟩ := hJ
  obtain ⟨b1, b2⟩ := e
  cases b1
  · exact ezw_Cmono (ezs_m195_0_f (fz := ezl_fz) (F0 := F) (A0 := A) ⟨hS, fun _ _ => ⟨rfl, rfl⟩⟩ hd (fun q h0 h1 => ezl_fz0 q (by omega) (by omega)) ha1 ha2 ha3 ha4) (fun v g' h => ezl_b hs hy hM ezl_ri h)
  · exact ezw_Cmono (ezs_m195_0_t (fz := ezl_fz) (F0 := F) (A0 := A) ⟨hS, fun _ _ => ⟨rfl, rfl⟩⟩ hd (fun q h0 h1 => ezl_fz0 q (by omega) (by omega)) ha1 ha2 ha3 ha4) (fun v g' h => ezl_b hs hy hM ezl_ri h)
theorem ezl_x201 {a1 a2 : Int} (hJ : ezl_J s a t b y z g) (hd : 2 ≤ d) (ha1 : ezw_in a1) (ha2 : ezw_in a2) : ezw_C l ρ B xa Hb D cA 201 d [ezw_p 0, ezw_i a1, ezw_i a2] g (fun v g' => (∃ u, some (ezw_i u) = v) ∧ ezl_J s a t b y z g') := by
  obtain ⟨e, F, A, rfl, hS, hs, hy, hM⟩ := hJ
  obtain ⟨b1, b2⟩ := e
  cases b1
  · exact ezw_Cmono (ezs_m201_0_f (fz := ezl_fz) (F0 := F) (A0 := A) ⟨hS, fun _ _ => ⟨rfl, rfl⟩⟩ hd (fun q h0 h1 => ezl_fz0 q (by omega) (by omega)) ha1 ha2) (fun v g' h => ezl_b hs hy hM ezl_rz h)
  · exact ezw_Cmono (ezs_m201_0_t (fz := ezl_fz) (F0 := F) (A0 := A) ⟨hS, fun _ _ => ⟨rfl, rfl⟩⟩ hd (fun q h0 h1 => ezl_fz0 q (by omega) (by omega)) ha1 ha2) (fun v g' h => ezl_b hs hy hM ezl_rz h)
theorem ezl_x209 {a1 : Int} (hJ : ezl_J s a t b y z g) (hd : 2 ≤ d) (ha1 : ezw_in a1) : ezw_C l ρ B xa Hb D cA 209 d [ezw_p 0, ezw_i a1] g (fun v g' => (∃ u, some (ezw_i u) = v) ∧ ezl_J s a t b y z g') := by
  obtain ⟨e, F, A, rfl, hS, hs, hy, hM⟩ := hJ
  obtain ⟨b1, b2⟩ := e
  cases b1
  · cases b2
    · exact ezw_Cmono (ezs_m209_0_ff (fz := ezl_fz) (F0 := F) (A0 := A) ⟨hS, fun _ _ => ⟨rfl, rfl⟩⟩ hd ha1) (fun v g' h => ezl_bp hS hs hy hM ezl_ri h)
    · exact ezw_Cmono (ezs_m209_0_ft (fz := ezl_fz) (F0 := F) (A0 := A) ⟨hS, fun _ _ => ⟨rfl, rfl⟩⟩ hd ha1) (fun v g' h => ezl_bp hS hs hy hM ezl_ri h)
  · cases b2
    · exact ezw_Cmono (ezs_m209_0_tf (fz := ezl_fz) (F0 := F) (A0 := A) ⟨hS, fun _ _ => ⟨rfl, rfl⟩⟩ hd ha1) (fun v g' h => ezl_bp hS hs hy hM ezl_ri h)
    · exact ezw_Cmono (ezs_m209_0_tt (fz := ezl_fz) (F0 := F) (A0 := A) ⟨hS, fun _ _ => ⟨rfl, rfl⟩⟩ hd ha1) (fun v g' h => ezl_bp hS hs hy hM ezl_ri h)
theorem ezl_x177 {a1 : Int} (hJ : ezl_J s a t b y z g) (hd : 2 ≤ d) (ha1 : ezw_in a1) (hB : ezp_B y) : ezw_C l ρ B xa Hb D cA 177 d [ezw_p 0, ezw_i a1] g (fun v g' => (∃ u : Int, ezw_in u ∧ (u = ezp_far y a1) ∧ some (ezw_i u) = v) ∧ ezl_J s a t b y z g') := by
  obtain ⟨e, F, A, rfl, hS, hs, hy, hM⟩ := hJ
  obtain ⟨b1, b2⟩ := e
  cases b1
  · refine ezw_Cmono (ezt_m177_0o_f (F := F) (A := A) hS (by omega) ha1 hy.1 hy.2 hB) ?_
    rintro _ _ ⟨rfl, u, hu, an, rfl⟩
    exact ⟨⟨u, hu, an, rfl⟩, _, F, A, rfl, hS, hs, hy, hM⟩
  · refine ezw_Cmono (ezt_m177_0o_t (F := F) (A := A) hS (by omega) ha1 hy.1 hy.2 hB) ?_
    rintro _ _ ⟨rfl, u, hu, an, rfl⟩
    exact ⟨⟨u, hu, an, rfl⟩, _, F, A, rfl, hS, hs, hy, hM⟩
theorem ezl_x178 {a1 : Int} (hJ : ezl_J s a t b y z g) (hd : 4 ≤ d) (ha1 : ezw_in a1) (hB : ezp_B y) : ezw_C l ρ B xa Hb D cA 178 d [ezw_p 0, ezw_i a1] g (fun v g' => (∃ u : Int, ezw_in u ∧ (u = ezp_mi y a1) ∧ some (ezw_i u) = v) ∧ ezl_J s a t b y z g') := by
  obtain ⟨e, F, A, rfl, hS, hs, hy, hM⟩ := hJ
  obtain ⟨b1, b2⟩ := e
  cases b1
  · refine ezw_Cmono (ezt_m178_0o_f (F := F) (A := A) hS (by omega) ha1 hy.1 hy.2 hB) ?_
    rintro _ _ ⟨rfl, u, hu, an, rfl⟩
    exact ⟨⟨u, hu, an, rfl⟩, _, F, A, rfl, hS, hs, hy, hM⟩
  · refine ezw_Cmono (ezt_m178_0o_t (F := F) (A := A) hS (by omega) ha1 hy.1 hy.2 hB) ?_
    rintro _ _ ⟨rfl, u, hu, an, rfl⟩
    exact ⟨⟨u, hu, an, rfl⟩, _, F, A, rfl, hS, hs, hy, hM⟩
theorem ezl_x181 {a1 a2 : Int} (hJ : ezl_J s a t b y z g) (hd : 4 ≤ d) (ha1 : ezw_in a1) (ha2 : ezw_in a2) (hB : ezp_B y) : ezw_C l ρ B xa Hb D cA 181 d [ezw_p 0, ezw_i a1, ezw_i a2] g (fun v g' => (∃ u : Int, ezw_in u ∧ (u = ezp_sa y a1 a2) ∧ some (ezw_i u) = v) ∧ ezl_J s a t b y z g') := by
  obtain ⟨e, F, A, rfl, hS, hs, hy, hM⟩ := hJ
  obtain ⟨b1, b2⟩ := e
  cases b1
  · refine ezw_Cmono (ezt_m181_0o_f (F := F) (A := A) hS (by omega) ha1 ha2 hy.1 hy.2 hB) ?_
    rintro _ _ ⟨rfl, u, hu, an, rfl⟩
    exact ⟨⟨u, hu, an, rfl⟩, _, F, A, rfl, hS, hs, hy, hM⟩
  · refine ezw_Cmono (ezt_m181_0o_t (F := F) (A := A) hS (by omega) ha1 ha2 hy.1 hy.2 hB) ?_
    rintro _ _ ⟨rfl, u, hu, an, rfl⟩
    exact ⟨⟨u, hu, an, rfl⟩, _, F, A, rfl, hS, hs, hy, hM⟩
theorem ezl_x185 {a1 : Int} (hJ : ezl_J s a t b y z g) (hd : 5 ≤ d) (ha1 : ezw_in a1) (hB : ezp_B y) : ezw_C l ρ B xa Hb D cA 185 d [ezw_p 0, ezw_i a1] g (fun v g' => (∃ u : Int, ezw_in u ∧ (u = ezp_pla y a1) ∧ some (ezw_i u) = v) ∧ ezl_J s a t b y z g') := by
  obtain ⟨e, F, A, rfl, hS, hs, hy, hM⟩ := hJ
  obtain ⟨b1, b2⟩ := e
  cases b1
  · refine ezw_Cmono (ezt_m185_0o_f (F := F) (A := A) hS (by omega) ha1 hy.1 hy.2 hB) ?_
    rintro _ _ ⟨rfl, u, hu, an, rfl⟩
    exact ⟨⟨u, hu, an, rfl⟩, _, F, A, rfl, hS, hs, hy, hM⟩
  · refine ezw_Cmono (ezt_m185_0o_t (F := F) (A := A) hS (by omega) ha1 hy.1 hy.2 hB) ?_
    rintro _ _ ⟨rfl, u, hu, an, rfl⟩
    exact ⟨⟨u, hu, an, rfl⟩, _, F, A, rfl, hS, hs, hy, hM⟩
theorem ezl_x187 {a1 a2 : Int} (hJ : ezl_J s a t b y z g) (hd : 5 ≤ d) (ha1 : ezw_in a1) (ha2 : ezw_in a2) (hB : ezp_B y) : ezw_C l ρ B xa Hb D cA 187 d [ezw_p 0, ezw_i a1, ezw_i a2] g (fun v g' => (∃ u : Int, ezw_in u ∧ (ezp_nea y a1 a2 u) ∧ some (ezw_i u) = v) ∧ ezl_J s a t b y z g') := by
  obtain ⟨e, F, A, rfl, hS, hs, hy, hM⟩ := hJ
  obtain ⟨b1, b2⟩ := e
  cases b1
  · refine ezw_Cmono (ezt_m187_0o_f (F := F) (A := A) hS (by omega) ha1 ha2 hy.1 hy.2 hB) ?_
    rintro _ _ ⟨rfl, u, hu, an, rfl⟩
    exact ⟨⟨u, hu, an, rfl⟩, _, F, A, rfl, hS, hs, hy, hM⟩
  · refine ezw_Cmono (ezt_m187_0o_t (F := F) (A := A) hS (by omega) ha1 ha2 hy.1 hy.2 hB) ?_
    rintro _ _ ⟨rfl, u, hu, an, rfl⟩
    exact ⟨⟨u, hu, an, rfl⟩, _, F, A, rfl, hS, hs, hy, hM⟩
theorem ezl_x22 (hJ : ezl_J s a t b y z g) (hd : 44 ≤ d) (tp : ezp_tp (ezp_ch a s) s) : ezw_C l ρ B xa Hb D cA 22 d [ezw_p 0] g (fun v g' => (ezw_in (ezp_tree (ezp_ch a s)) ∧ some (ezw_i (ezp_tree (ezp_ch a s))) = v) ∧ ∃ a', ezl_J 0 a' t b (ezl_ty (ezp_ch a s) y) z g') := by
  obtain ⟨e, F, A, rfl, hS, hs, hy, hM⟩ := hJ
  obtain ⟨hs1, rfl, hw⟩ := hs
  obtain ⟨b1, b2⟩ := e
  cases b1
  · cases b2
    · exact ezw_Cmono (ezt_tree_ff (F := F) (A := A) hS hd hs1 rfl tp hw) (fun v g' h => ezl_be (fun e9 F9 A9 h9 => h9 y hy) hM hw h)
    · exact ezw_Cmono (ezt_tree_ft (F := F) (A := A) hS hd hs1 rfl tp hw) (fun v g' h => ezl_be (fun e9 F9 A9 h9 => h9 y hy) hM hw h)
  · cases b2
    · exact ezw_Cmono (ezt_tree_tf (F := F) (A := A) hS hd hs1 rfl tp hw) (fun v g' h => ezl_be (fun e9 F9 A9 h9 => h9 y hy) hM hw h)
    · exact ezw_Cmono (ezt_tree_tt (F := F) (A := A) hS hd hs1 rfl tp hw) (fun v g' h => ezl_be (fun e9 F9 A9 h9 => h9 y hy) hM hw h)
theorem ezl_x99 (hJ : ezl_J s a t b y z g) (hd : 10 ≤ d) : ezw_C l ρ B xa Hb D cA 99 d [ezw_p 0] g (fun v g' => (∃ u, some (ezw_i u) = v) ∧ ∃ a', ezl_J 0 a' t b y z g') := by
  obtain ⟨e, F, A, rfl, hS, hs, hy, hM⟩ := hJ
  obtain ⟨hs1, rfl, hw⟩ := hs
  obtain ⟨b1, b2⟩ := e
  cases b1
  · cases b2
    · exact ezw_Cmono (ezt_aft_ff (F := F) (A := A) hS hd) (fun v g' h => ezl_be (fun e9 F9 A9 h9 => h9 y hy) hM hw h)
    · exact ezw_Cmono (ezt_aft_ft (F := F) (A := A) hS hd) (fun v g' h => ezl_be (fun e9 F9 A9 h9 => h9 y hy) hM hw h)
  · cases b2
    · exact ezw_Cmono (ezt_aft_tf (F := F) (A := A) hS hd) (fun v g' h => ezl_be (fun e9 F9 A9 h9 => h9 y hy) hM hw h)
    · exact ezw_Cmono (ezt_aft_tt (F := F) (A := A) hS hd) (fun v g' h => ezl_be (fun e9 F9 A9 h9 => h9 y hy) hM hw h)
theorem ezl_x19 {w1 w2 w3 : Int} (hJ : ezl_J s a t b y z g) (hd : 2 ≤ d) (g1 : ezw_il w1) (g2 : ezw_il w2) (g3 : ezw_il w3) : ezw_C l ρ B xa Hb D cA 19 d [ezw_p 0, ezw_l w1, ezw_l w2, ezw_l w3] g (fun v g' => (∃ u, some (ezw_i u) = v) ∧ ezl_J (ezf3 w1 w2 w3 s a).1 (ezf3 w1 w2 w3 s a).2 t b y z g') := by
  obtain ⟨e, F, A, rfl, hS, hs, hy, hM⟩ := hJ
  obtain ⟨hs1, rfl, hw⟩ := hs
  refine ezw_Cmono (ezt_feed g1 g2 g3 hS hd) ?_
  rintro v g' ⟨h1, F2, A2, rfl, h2, h3, h4, h5, h72, hq⟩
  rw [hs1] at h3 h4
  exact ⟨⟨_, h1⟩, e, F2, A2, rfl, h2, ⟨h3, h4, by rw [h5]; exact hw⟩, ezl_TC_f2 hy (fun q q0 q1 => hq q (by omega)), ezl_Mf hM h72⟩
end KL
