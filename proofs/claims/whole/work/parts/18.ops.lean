set_option maxHeartbeats 4000000 in
theorem z_op_standOn (l : Launch) (hst : l.stackTraces = false) (Dg : va_G) (cI cL : ClassId) (h : Nat) (na ta : Nat → Nat) (ob : Nat) (mo : Nat → Nat) (G : z_GG) (D : z_DD) (a1 : Int32) (hG : z_WG G) (hW : z_WD G D) : ∃ (c9 : Int32) (G9 : z_GG) (D9 : z_DD) (v9 : Int32), z_WG G9 ∧ z_WD G9 D9 ∧ (∀ (G1 : z_GG) (D1 : z_DD) (o9 : Nat → Int64), z_ML l yL_standOn wsL_standOn 8 131 [.ref h, .int a1, .ref ob] Dg cI cL (z_oW cI cL h na ta ob G D G1 D1 o9) (z_PW c9 (v9).toInt64 cI cL h na ta ob G9 D9)) ∧ (∀ (th : Int32) (K : Nat → Int32), ∃ K9 : Nat → Int32, z_Mw l yX3_standOn wsX3_standOn 2 44 [.ref (mo 0), .int a1] Dg cI (z_mW cI mo th G D K) (some (.int (v9))) (z_mW cI mo c9 G9 D9 K9)) := by
  have htc : z_tc G ≤ 60 := hG.2.2.2.2.2.1
  have hbc : z_bc G ≤ 6 := hG.2.2.2.2.1
  rcases z_spl a1 4 (by decide) with ⟨s_, hs4, rfl⟩ | e1
  · skip
    exact ⟨0, G, D, nI (z_on G D s_), hG, hW, fun G1 D1 o9 => m_L_standOn_ok l hst Dg cI cL h na ta G D G1 D1 ob o9 s_ hs4 hG hW, fun th K => ⟨K, m_X3_standOn l Dg cI mo th G D K s_ hs4 hG hW⟩⟩
  · skip
    rw [show nI 4 - 1 = 3 from by decide] at e1
    exact ⟨1, G, D, 0, hG, hW, fun G1 D1 o9 => m_L_standOn_x1 l hst Dg cI cL h na ta G D G1 D1 ob o9 a1 e1 hG hW, fun th K => ⟨K, m_X3_standOn_x1 l Dg cI mo th G D K a1 e1 hG hW⟩⟩

set_option maxHeartbeats 4000000 in
theorem z_op_warmOf (l : Launch) (hst : l.stackTraces = false) (Dg : va_G) (cI cL : ClassId) (h : Nat) (na ta : Nat → Nat) (ob : Nat) (mo : Nat → Nat) (G : z_GG) (D : z_DD) (a1 : Int32) (hG : z_WG G) (hW : z_WD G D) : ∃ (c9 : Int32) (G9 : z_GG) (D9 : z_DD) (v9 : Int32), z_WG G9 ∧ z_WD G9 D9 ∧ (∀ (G1 : z_GG) (D1 : z_DD) (o9 : Nat → Int64), z_ML l yL_warmOf wsL_warmOf 8 131 [.ref h, .int a1, .ref ob] Dg cI cL (z_oW cI cL h na ta ob G D G1 D1 o9) (z_PW c9 (v9).toInt64 cI cL h na ta ob G9 D9)) ∧ (∀ (th : Int32) (K : Nat → Int32), ∃ K9 : Nat → Int32, z_Mw l yX3_warmOf wsX3_warmOf 2 42 [.ref (mo 0), .int a1] Dg cI (z_mW cI mo th G D K) (some (.int (v9))) (z_mW cI mo c9 G9 D9 K9)) := by
  have htc : z_tc G ≤ 60 := hG.2.2.2.2.2.1
  have hbc : z_bc G ≤ 6 := hG.2.2.2.2.1
  rcases z_spl a1 4 (by decide) with ⟨s_, hs4, rfl⟩ | e1
  · skip
    exact ⟨0, G, D, z_wm G s_, hG, hW, fun G1 D1 o9 => m_L_warmOf_ok l hst Dg cI cL h na ta G D G1 D1 ob o9 s_ hs4 hG hW, fun th K => ⟨K, m_X3_warmOf l Dg cI mo th G D K s_ hs4 hG hW⟩⟩
  · skip
    rw [show nI 4 - 1 = 3 from by decide] at e1
    exact ⟨1, G, D, 0, hG, hW, fun G1 D1 o9 => m_L_warmOf_x1 l hst Dg cI cL h na ta G D G1 D1 ob o9 a1 e1 hG hW, fun th K => ⟨K, m_X3_warmOf_x1 l Dg cI mo th G D K a1 e1 hG hW⟩⟩

set_option maxHeartbeats 4000000 in
theorem z_op_batchOf (l : Launch) (hst : l.stackTraces = false) (Dg : va_G) (cI cL : ClassId) (h : Nat) (na ta : Nat → Nat) (ob : Nat) (mo : Nat → Nat) (G : z_GG) (D : z_DD) (a1 : Int32) (hG : z_WG G) (hW : z_WD G D) : ∃ (c9 : Int32) (G9 : z_GG) (D9 : z_DD) (v9 : Int32), z_WG G9 ∧ z_WD G9 D9 ∧ (∀ (G1 : z_GG) (D1 : z_DD) (o9 : Nat → Int64), z_ML l yL_batchOf wsL_batchOf 8 132 [.ref h, .int a1, .ref ob] Dg cI cL (z_oW cI cL h na ta ob G D G1 D1 o9) (z_PW c9 (v9).toInt64 cI cL h na ta ob G9 D9)) ∧ (∀ (th : Int32) (K : Nat → Int32), ∃ K9 : Nat → Int32, z_Mw l yX3_batchOf wsX3_batchOf 2 43 [.ref (mo 0), .int a1] Dg cI (z_mW cI mo th G D K) (some (.int (v9))) (z_mW cI mo c9 G9 D9 K9)) := by
  have htc : z_tc G ≤ 60 := hG.2.2.2.2.2.1
  have hbc : z_bc G ≤ 6 := hG.2.2.2.2.1
  rcases z_spl a1 (z_tc G) (by omega) with ⟨t, ht, rfl⟩ | e1
  · skip
    exact ⟨0, G, D, nI (z_bt G t), hG, hW, fun G1 D1 o9 => m_L_batchOf_ok l hst Dg cI cL h na ta G D G1 D1 ob o9 t ht hG hW, fun th K => ⟨K, m_X3_batchOf l Dg cI mo th G D K t ht hG hW⟩⟩
  · skip
    exact ⟨1, G, D, 0, hG, hW, fun G1 D1 o9 => m_L_batchOf_x1 l hst Dg cI cL h na ta G D G1 D1 ob o9 a1 e1 hG hW, fun th K => ⟨K, m_X3_batchOf_x1 l Dg cI mo th G D K a1 e1 hG hW⟩⟩

set_option maxHeartbeats 4000000 in
theorem z_op_shelfOf (l : Launch) (hst : l.stackTraces = false) (Dg : va_G) (cI cL : ClassId) (h : Nat) (na ta : Nat → Nat) (ob : Nat) (mo : Nat → Nat) (G : z_GG) (D : z_DD) (a1 : Int32) (hG : z_WG G) (hW : z_WD G D) : ∃ (c9 : Int32) (G9 : z_GG) (D9 : z_DD) (v9 : Int32), z_WG G9 ∧ z_WD G9 D9 ∧ (∀ (G1 : z_GG) (D1 : z_DD) (o9 : Nat → Int64), z_ML l yL_shelfOf wsL_shelfOf 8 132 [.ref h, .int a1, .ref ob] Dg cI cL (z_oW cI cL h na ta ob G D G1 D1 o9) (z_PW c9 (v9).toInt64 cI cL h na ta ob G9 D9)) ∧ (∀ (th : Int32) (K : Nat → Int32), ∃ K9 : Nat → Int32, z_Mw l yX3_shelfOf wsX3_shelfOf 2 43 [.ref (mo 0), .int a1] Dg cI (z_mW cI mo th G D K) (some (.int (v9))) (z_mW cI mo c9 G9 D9 K9)) := by
  have htc : z_tc G ≤ 60 := hG.2.2.2.2.2.1
  have hbc : z_bc G ≤ 6 := hG.2.2.2.2.1
  rcases z_spl a1 (z_tc G) (by omega) with ⟨t, ht, rfl⟩ | e1
  · skip
    exact ⟨0, G, D, z_shf G D t, hG, hW, fun G1 D1 o9 => m_L_shelfOf_ok l hst Dg cI cL h na ta G D G1 D1 ob o9 t ht hG hW, fun th K => ⟨K, m_X3_shelfOf l Dg cI mo th G D K t ht hG hW⟩⟩
  · skip
    exact ⟨1, G, D, 0, hG, hW, fun G1 D1 o9 => m_L_shelfOf_x1 l hst Dg cI cL h na ta G D G1 D1 ob o9 a1 e1 hG hW, fun th K => ⟨K, m_X3_shelfOf_x1 l Dg cI mo th G D K a1 e1 hG hW⟩⟩

set_option maxHeartbeats 4000000 in
theorem z_op_vacuumOf (l : Launch) (hst : l.stackTraces = false) (Dg : va_G) (cI cL : ClassId) (h : Nat) (na ta : Nat → Nat) (ob : Nat) (mo : Nat → Nat) (G : z_GG) (D : z_DD) (a1 : Int32) (hG : z_WG G) (hW : z_WD G D) : ∃ (c9 : Int32) (G9 : z_GG) (D9 : z_DD) (v9 : Int32), z_WG G9 ∧ z_WD G9 D9 ∧ (∀ (G1 : z_GG) (D1 : z_DD) (o9 : Nat → Int64), z_ML l yL_vacuumOf wsL_vacuumOf 8 132 [.ref h, .int a1, .ref ob] Dg cI cL (z_oW cI cL h na ta ob G D G1 D1 o9) (z_PW c9 (v9).toInt64 cI cL h na ta ob G9 D9)) ∧ (∀ (th : Int32) (K : Nat → Int32), ∃ K9 : Nat → Int32, z_Mw l yX3_vacuumOf wsX3_vacuumOf 2 43 [.ref (mo 0), .int a1] Dg cI (z_mW cI mo th G D K) (some (.int (v9))) (z_mW cI mo c9 G9 D9 K9)) := by
  have htc : z_tc G ≤ 60 := hG.2.2.2.2.2.1
  have hbc : z_bc G ≤ 6 := hG.2.2.2.2.1
  rcases z_spl a1 (z_tc G) (by omega) with ⟨t, ht, rfl⟩ | e1
  · skip
    exact ⟨0, G, D, z_vc D t, hG, hW, fun G1 D1 o9 => m_L_vacuumOf_ok l hst Dg cI cL h na ta G D G1 D1 ob o9 t ht hG hW, fun th K => ⟨K, m_X3_vacuumOf l Dg cI mo th G D K t ht hG hW⟩⟩
  · skip
    exact ⟨1, G, D, 0, hG, hW, fun G1 D1 o9 => m_L_vacuumOf_x1 l hst Dg cI cL h na ta G D G1 D1 ob o9 a1 e1 hG hW, fun th K => ⟨K, m_X3_vacuumOf_x1 l Dg cI mo th G D K a1 e1 hG hW⟩⟩

set_option maxHeartbeats 4000000 in
theorem z_op_isShipped (l : Launch) (hst : l.stackTraces = false) (Dg : va_G) (cI cL : ClassId) (h : Nat) (na ta : Nat → Nat) (ob : Nat) (mo : Nat → Nat) (G : z_GG) (D : z_DD) (a1 : Int32) (hG : z_WG G) (hW : z_WD G D) : ∃ (c9 : Int32) (G9 : z_GG) (D9 : z_DD) (b9 : Bool), z_WG G9 ∧ z_WD G9 D9 ∧ (∀ (G1 : z_GG) (D1 : z_DD) (o9 : Nat → Int64), z_ML l yL_isShipped wsL_isShipped 8 132 [.ref h, .int a1, .ref ob] Dg cI cL (z_oW cI cL h na ta ob G D G1 D1 o9) (z_PW c9 (z_bI b9).toInt64 cI cL h na ta ob G9 D9)) ∧ (∀ (th : Int32) (K : Nat → Int32), ∃ K9 : Nat → Int32, z_Mw l yX3_isShipped wsX3_isShipped 3 65 [.ref (mo 0), .int a1] Dg cI (z_mW cI mo th G D K) (some (.int (z_bI b9))) (z_mW cI mo c9 G9 D9 K9)) := by
  have htc : z_tc G ≤ 60 := hG.2.2.2.2.2.1
  have hbc : z_bc G ≤ 6 := hG.2.2.2.2.1
  rcases z_spl a1 (z_tc G) (by omega) with ⟨t, ht, rfl⟩ | e1
  · skip
    exact ⟨0, G, D, z_pl D t == 2, hG, hW, fun G1 D1 o9 => m_L_isShipped_ok l hst Dg cI cL h na ta G D G1 D1 ob o9 t ht hG hW, fun th K => ⟨K, m_X3_isShipped l Dg cI mo th G D K t ht hG hW⟩⟩
  · skip
    exact ⟨1, G, D, false, hG, hW, fun G1 D1 o9 => m_L_isShipped_x1 l hst Dg cI cL h na ta G D G1 D1 ob o9 a1 e1 hG hW, fun th K => ⟨K, m_X3_isShipped_x1 l Dg cI mo th G D K a1 e1 hG hW⟩⟩

set_option maxHeartbeats 4000000 in
theorem z_op_isLost (l : Launch) (hst : l.stackTraces = false) (Dg : va_G) (cI cL : ClassId) (h : Nat) (na ta : Nat → Nat) (ob : Nat) (mo : Nat → Nat) (G : z_GG) (D : z_DD) (a1 : Int32) (hG : z_WG G) (hW : z_WD G D) : ∃ (c9 : Int32) (G9 : z_GG) (D9 : z_DD) (b9 : Bool), z_WG G9 ∧ z_WD G9 D9 ∧ (∀ (G1 : z_GG) (D1 : z_DD) (o9 : Nat → Int64), z_ML l yL_isLost wsL_isLost 8 132 [.ref h, .int a1, .ref ob] Dg cI cL (z_oW cI cL h na ta ob G D G1 D1 o9) (z_PW c9 (z_bI b9).toInt64 cI cL h na ta ob G9 D9)) ∧ (∀ (th : Int32) (K : Nat → Int32), ∃ K9 : Nat → Int32, z_Mw l yX3_isLost wsX3_isLost 3 65 [.ref (mo 0), .int a1] Dg cI (z_mW cI mo th G D K) (some (.int (z_bI b9))) (z_mW cI mo c9 G9 D9 K9)) := by
  have htc : z_tc G ≤ 60 := hG.2.2.2.2.2.1
  have hbc : z_bc G ≤ 6 := hG.2.2.2.2.1
  rcases z_spl a1 (z_tc G) (by omega) with ⟨t, ht, rfl⟩ | e1
  · skip
    exact ⟨0, G, D, z_pl D t == 3, hG, hW, fun G1 D1 o9 => m_L_isLost_ok l hst Dg cI cL h na ta G D G1 D1 ob o9 t ht hG hW, fun th K => ⟨K, m_X3_isLost l Dg cI mo th G D K t ht hG hW⟩⟩
  · skip
    exact ⟨1, G, D, false, hG, hW, fun G1 D1 o9 => m_L_isLost_x1 l hst Dg cI cL h na ta G D G1 D1 ob o9 a1 e1 hG hW, fun th K => ⟨K, m_X3_isLost_x1 l Dg cI mo th G D K a1 e1 hG hW⟩⟩

set_option maxHeartbeats 4000000 in
theorem z_op_daysOf (l : Launch) (hst : l.stackTraces = false) (Dg : va_G) (cI cL : ClassId) (h : Nat) (na ta : Nat → Nat) (ob : Nat) (mo : Nat → Nat) (G : z_GG) (D : z_DD) (a1 : Int32) (hG : z_WG G) (hW : z_WD G D) : ∃ (c9 : Int32) (G9 : z_GG) (D9 : z_DD) (v9 : Int32), z_WG G9 ∧ z_WD G9 D9 ∧ (∀ (G1 : z_GG) (D1 : z_DD) (o9 : Nat → Int64), z_ML l yL_daysOf wsL_daysOf 8 132 [.ref h, .int a1, .ref ob] Dg cI cL (z_oW cI cL h na ta ob G D G1 D1 o9) (z_PW c9 (v9).toInt64 cI cL h na ta ob G9 D9)) ∧ (∀ (th : Int32) (K : Nat → Int32), ∃ K9 : Nat → Int32, z_Mw l yX3_daysOf wsX3_daysOf 2 45 [.ref (mo 0), .int a1] Dg cI (z_mW cI mo th G D K) (some (.int (v9))) (z_mW cI mo c9 G9 D9 K9)) := by
  have htc : z_tc G ≤ 60 := hG.2.2.2.2.2.1
  have hbc : z_bc G ≤ 6 := hG.2.2.2.2.1
  rcases z_spl a1 (z_tc G) (by omega) with ⟨t, ht, rfl⟩ | e1
  · skip
    exact ⟨0, G, D, z_dof G D t, hG, hW, fun G1 D1 o9 => m_L_daysOf_ok l hst Dg cI cL h na ta G D G1 D1 ob o9 t ht hG hW, fun th K => ⟨K, m_X3_daysOf l Dg cI mo th G D K t ht hG hW⟩⟩
  · skip
    exact ⟨1, G, D, 0, hG, hW, fun G1 D1 o9 => m_L_daysOf_x1 l hst Dg cI cL h na ta G D G1 D1 ob o9 a1 e1 hG hW, fun th K => ⟨K, m_X3_daysOf_x1 l Dg cI mo th G D K a1 e1 hG hW⟩⟩

set_option maxHeartbeats 4000000 in
theorem z_op_bestShelf (l : Launch) (hst : l.stackTraces = false) (Dg : va_G) (cI cL : ClassId) (h : Nat) (na ta : Nat → Nat) (ob : Nat) (mo : Nat → Nat) (G : z_GG) (D : z_DD) (a1 : Int32) (hG : z_WG G) (hW : z_WD G D) : ∃ (c9 : Int32) (G9 : z_GG) (D9 : z_DD) (v9 : Int32), z_WG G9 ∧ z_WD G9 D9 ∧ (∀ (G1 : z_GG) (D1 : z_DD) (o9 : Nat → Int64), z_ML l yL_bestShelf wsL_bestShelf 8 134 [.ref h, .int a1, .ref ob] Dg cI cL (z_oW cI cL h na ta ob G D G1 D1 o9) (z_PW c9 (v9).toInt64 cI cL h na ta ob G9 D9)) ∧ (∀ (th : Int32) (K : Nat → Int32), ∃ K9 : Nat → Int32, z_Mw l yX3_bestShelf wsX3_bestShelf 3 68 [.ref (mo 0), .int a1] Dg cI (z_mW cI mo th G D K) (some (.int (v9))) (z_mW cI mo c9 G9 D9 K9)) := by
  have htc : z_tc G ≤ 60 := hG.2.2.2.2.2.1
  have hbc : z_bc G ≤ 6 := hG.2.2.2.2.1
  rcases z_spl a1 (z_tc G) (by omega) with ⟨t, ht, rfl⟩ | e1
  · skip
    exact ⟨0, G, D, z_bsh G D t, hG, hW, fun G1 D1 o9 => m_L_bestShelf_ok l hst Dg cI cL h na ta G D G1 D1 ob o9 t ht hG hW, fun th K => ⟨K, m_X3_bestShelf l Dg cI mo th G D K t ht hG hW⟩⟩
  · skip
    exact ⟨1, G, D, 0, hG, hW, fun G1 D1 o9 => m_L_bestShelf_x1 l hst Dg cI cL h na ta G D G1 D1 ob o9 a1 e1 hG hW, fun th K => ⟨K, m_X3_bestShelf_x1 l Dg cI mo th G D K a1 e1 hG hW⟩⟩

set_option maxHeartbeats 4000000 in
theorem z_op_swelledOf (l : Launch) (hst : l.stackTraces = false) (Dg : va_G) (cI cL : ClassId) (h : Nat) (na ta : Nat → Nat) (ob : Nat) (mo : Nat → Nat) (G : z_GG) (D : z_DD) (a1 : Int32) (hG : z_WG G) (hW : z_WD G D) : ∃ (c9 : Int32) (G9 : z_GG) (D9 : z_DD) (v9 : Int32), z_WG G9 ∧ z_WD G9 D9 ∧ (∀ (G1 : z_GG) (D1 : z_DD) (o9 : Nat → Int64), z_ML l yL_swelledOf wsL_swelledOf 8 132 [.ref h, .int a1, .ref ob] Dg cI cL (z_oW cI cL h na ta ob G D G1 D1 o9) (z_PW c9 (v9).toInt64 cI cL h na ta ob G9 D9)) ∧ (∀ (th : Int32) (K : Nat → Int32), ∃ K9 : Nat → Int32, z_Mw l yX3_swelledOf wsX3_swelledOf 2 43 [.ref (mo 0), .int a1] Dg cI (z_mW cI mo th G D K) (some (.int (v9))) (z_mW cI mo c9 G9 D9 K9)) := by
  have htc : z_tc G ≤ 60 := hG.2.2.2.2.2.1
  have hbc : z_bc G ≤ 6 := hG.2.2.2.2.1
  rcases z_spl a1 (z_bc G) (by omega) with ⟨b_, hbb, rfl⟩ | e1
  · skip
    exact ⟨0, G, D, z_sw D b_, hG, hW, fun G1 D1 o9 => m_L_swelledOf_ok l hst Dg cI cL h na ta G D G1 D1 ob o9 b_ hbb hG hW, fun th K => ⟨K, m_X3_swelledOf l Dg cI mo th G D K b_ hbb hG hW⟩⟩
  · skip
    exact ⟨1, G, D, 0, hG, hW, fun G1 D1 o9 => m_L_swelledOf_x1 l hst Dg cI cL h na ta G D G1 D1 ob o9 a1 e1 hG hW, fun th K => ⟨K, m_X3_swelledOf_x1 l Dg cI mo th G D K a1 e1 hG hW⟩⟩

set_option maxHeartbeats 4000000 in
theorem z_op_leftOf (l : Launch) (hst : l.stackTraces = false) (Dg : va_G) (cI cL : ClassId) (h : Nat) (na ta : Nat → Nat) (ob : Nat) (mo : Nat → Nat) (G : z_GG) (D : z_DD) (a1 : Int32) (hG : z_WG G) (hW : z_WD G D) : ∃ (c9 : Int32) (G9 : z_GG) (D9 : z_DD) (v9 : Int32), z_WG G9 ∧ z_WD G9 D9 ∧ (∀ (G1 : z_GG) (D1 : z_DD) (o9 : Nat → Int64), z_ML l yL_leftOf wsL_leftOf 8 132 [.ref h, .int a1, .ref ob] Dg cI cL (z_oW cI cL h na ta ob G D G1 D1 o9) (z_PW c9 (v9).toInt64 cI cL h na ta ob G9 D9)) ∧ (∀ (th : Int32) (K : Nat → Int32), ∃ K9 : Nat → Int32, z_Mw l yX3_leftOf wsX3_leftOf 2 44 [.ref (mo 0), .int a1] Dg cI (z_mW cI mo th G D K) (some (.int (v9))) (z_mW cI mo c9 G9 D9 K9)) := by
  have htc : z_tc G ≤ 60 := hG.2.2.2.2.2.1
  have hbc : z_bc G ≤ 6 := hG.2.2.2.2.1
  rcases z_spl a1 (z_bc G) (by omega) with ⟨b_, hbb, rfl⟩ | e1
  · skip
    exact ⟨0, G, D, nI (z_lf G D b_), hG, hW, fun G1 D1 o9 => m_L_leftOf_ok l hst Dg cI cL h na ta G D G1 D1 ob o9 b_ hbb hG hW, fun th K => ⟨K, m_X3_leftOf l Dg cI mo th G D K b_ hbb hG hW⟩⟩
  · skip
    exact ⟨1, G, D, 0, hG, hW, fun G1 D1 o9 => m_L_leftOf_x1 l hst Dg cI cL h na ta G D G1 D1 ob o9 a1 e1 hG hW, fun th K => ⟨K, m_X3_leftOf_x1 l Dg cI mo th G D K a1 e1 hG hW⟩⟩

set_option maxHeartbeats 4000000 in
theorem z_op_isRecalled (l : Launch) (hst : l.stackTraces = false) (Dg : va_G) (cI cL : ClassId) (h : Nat) (na ta : Nat → Nat) (ob : Nat) (mo : Nat → Nat) (G : z_GG) (D : z_DD) (a1 : Int32) (hG : z_WG G) (hW : z_WD G D) : ∃ (c9 : Int32) (G9 : z_GG) (D9 : z_DD) (b9 : Bool), z_WG G9 ∧ z_WD G9 D9 ∧ (∀ (G1 : z_GG) (D1 : z_DD) (o9 : Nat → Int64), z_ML l yL_isRecalled wsL_isRecalled 8 132 [.ref h, .int a1, .ref ob] Dg cI cL (z_oW cI cL h na ta ob G D G1 D1 o9) (z_PW c9 (z_bI b9).toInt64 cI cL h na ta ob G9 D9)) ∧ (∀ (th : Int32) (K : Nat → Int32), ∃ K9 : Nat → Int32, z_Mw l yX3_isRecalled wsX3_isRecalled 2 43 [.ref (mo 0), .int a1] Dg cI (z_mW cI mo th G D K) (some (.int (z_bI b9))) (z_mW cI mo c9 G9 D9 K9)) := by
  have htc : z_tc G ≤ 60 := hG.2.2.2.2.2.1
  have hbc : z_bc G ≤ 6 := hG.2.2.2.2.1
  rcases z_spl a1 (z_bc G) (by omega) with ⟨b_, hbb, rfl⟩ | e1
  · skip
    exact ⟨0, G, D, z_rc D b_, hG, hW, fun G1 D1 o9 => m_L_isRecalled_ok l hst Dg cI cL h na ta G D G1 D1 ob o9 b_ hbb hG hW, fun th K => ⟨K, m_X3_isRecalled l Dg cI mo th G D K b_ hbb hG hW⟩⟩
  · skip
    exact ⟨1, G, D, false, hG, hW, fun G1 D1 o9 => m_L_isRecalled_x1 l hst Dg cI cL h na ta G D G1 D1 ob o9 a1 e1 hG hW, fun th K => ⟨K, m_X3_isRecalled_x1 l Dg cI mo th G D K a1 e1 hG hW⟩⟩

set_option maxHeartbeats 4000000 in
theorem z_op_daysUntilRecalled (l : Launch) (hst : l.stackTraces = false) (Dg : va_G) (cI cL : ClassId) (h : Nat) (na ta : Nat → Nat) (ob : Nat) (mo : Nat → Nat) (G : z_GG) (D : z_DD) (a1 : Int32) (hG : z_WG G) (hW : z_WD G D) : ∃ (c9 : Int32) (G9 : z_GG) (D9 : z_DD) (v9 : Int32), z_WG G9 ∧ z_WD G9 D9 ∧ (∀ (G1 : z_GG) (D1 : z_DD) (o9 : Nat → Int64), z_ML l yL_daysUntilRecalled wsL_daysUntilRecalled 8 133 [.ref h, .int a1, .ref ob] Dg cI cL (z_oW cI cL h na ta ob G D G1 D1 o9) (z_PW c9 (v9).toInt64 cI cL h na ta ob G9 D9)) ∧ (∀ (th : Int32) (K : Nat → Int32), ∃ K9 : Nat → Int32, z_Mw l yX3_daysUntilRecalled wsX3_daysUntilRecalled 4 110 [.ref (mo 0), .int a1] Dg cI (z_mW cI mo th G D K) (some (.int (v9))) (z_mW cI mo c9 G9 D9 K9)) := by
  have htc : z_tc G ≤ 60 := hG.2.2.2.2.2.1
  have hbc : z_bc G ≤ 6 := hG.2.2.2.2.1
  rcases z_spl a1 (z_bc G) (by omega) with ⟨b_, hbb, rfl⟩ | e1
  · skip
    exact ⟨0, G, D, z_ur G D b_, hG, hW, fun G1 D1 o9 => m_L_daysUntilRecalled_ok l hst Dg cI cL h na ta G D G1 D1 ob o9 b_ hbb hG hW, fun th K => ⟨(z_nw D), m_X3_daysUntilRecalled l Dg cI mo th G D K b_ hbb hG hW⟩⟩
  · skip
    exact ⟨1, G, D, 0, hG, hW, fun G1 D1 o9 => m_L_daysUntilRecalled_x1 l hst Dg cI cL h na ta G D G1 D1 ob o9 a1 e1 hG hW, fun th K => ⟨K, m_X3_daysUntilRecalled_x1 l Dg cI mo th G D K a1 e1 hG hW⟩⟩

set_option maxHeartbeats 4000000 in
theorem z_op_first (l : Launch) (hst : l.stackTraces = false) (Dg : va_G) (cI cL : ClassId) (h : Nat) (na ta : Nat → Nat) (ob : Nat) (mo : Nat → Nat) (G : z_GG) (D : z_DD) (a1 : Int32) (hG : z_WG G) (hW : z_WD G D) : ∃ (c9 : Int32) (G9 : z_GG) (D9 : z_DD) (v9 : Int32), z_WG G9 ∧ z_WD G9 D9 ∧ (∀ (G1 : z_GG) (D1 : z_DD) (o9 : Nat → Int64), z_ML l yL_first wsL_first 8 131 [.ref h, .int a1, .ref ob] Dg cI cL (z_oW cI cL h na ta ob G D G1 D1 o9) (z_PW c9 (v9).toInt64 cI cL h na ta ob G9 D9)) ∧ (∀ (th : Int32) (K : Nat → Int32), ∃ K9 : Nat → Int32, z_Mw l yX3_first wsX3_first 2 45 [.ref (mo 0), .int a1] Dg cI (z_mW cI mo th G D K) (some (.int (v9))) (z_mW cI mo c9 G9 D9 K9)) := by
  have htc : z_tc G ≤ 60 := hG.2.2.2.2.2.1
  have hbc : z_bc G ≤ 6 := hG.2.2.2.2.1
  rcases z_spl a1 3 (by decide) with ⟨o, ho, rfl⟩ | e1
  · skip
    exact ⟨0, G, D, z_oi (z_fb G D o (z_tc G)), hG, hW, fun G1 D1 o9 => m_L_first_ok l hst Dg cI cL h na ta G D G1 D1 ob o9 o ho hG hW, fun th K => ⟨K, m_X3_first l Dg cI mo th G D K o ho hG hW⟩⟩
  · skip
    rw [show nI 3 - 1 = 2 from by decide] at e1
    exact ⟨1, G, D, 0, hG, hW, fun G1 D1 o9 => m_L_first_x1 l hst Dg cI cL h na ta G D G1 D1 ob o9 a1 e1 hG hW, fun th K => ⟨K, m_X3_first_x1 l Dg cI mo th G D K a1 e1 hG hW⟩⟩

set_option maxHeartbeats 4000000 in
theorem z_op_placeBy (l : Launch) (hst : l.stackTraces = false) (Dg : va_G) (cI cL : ClassId) (h : Nat) (na ta : Nat → Nat) (ob : Nat) (mo : Nat → Nat) (G : z_GG) (D : z_DD) (a1 : Int32) (a2 : Int32) (hG : z_WG G) (hW : z_WD G D) : ∃ (c9 : Int32) (G9 : z_GG) (D9 : z_DD) (v9 : Int32), z_WG G9 ∧ z_WD G9 D9 ∧ (∀ (G1 : z_GG) (D1 : z_DD) (o9 : Nat → Int64), z_ML l yL_placeBy wsL_placeBy 8 133 [.ref h, .int a1, .int a2, .ref ob] Dg cI cL (z_oW cI cL h na ta ob G D G1 D1 o9) (z_PW c9 (v9).toInt64 cI cL h na ta ob G9 D9)) ∧ (∀ (th : Int32) (K : Nat → Int32), ∃ K9 : Nat → Int32, z_Mw l yX3_placeBy wsX3_placeBy 2 46 [.ref (mo 0), .int a1, .int a2] Dg cI (z_mW cI mo th G D K) (some (.int (v9))) (z_mW cI mo c9 G9 D9 K9)) := by
  have htc : z_tc G ≤ 60 := hG.2.2.2.2.2.1
  have hbc : z_bc G ≤ 6 := hG.2.2.2.2.1
  rcases z_spl a1 (z_tc G) (by omega) with ⟨t, ht, rfl⟩ | e1
  · skip
    rcases z_spl a2 3 (by decide) with ⟨o, ho, rfl⟩ | e1
    · skip
      exact ⟨0, G, D, z_plb G D o t, hG, hW, fun G1 D1 o9 => m_L_placeBy_ok l hst Dg cI cL h na ta G D G1 D1 ob o9 t o ht ho hG hW, fun th K => ⟨K, m_X3_placeBy l Dg cI mo th G D K t o ht ho hG hW⟩⟩
    · skip
      rw [show nI 3 - 1 = 2 from by decide] at e1
      exact ⟨2, G, D, 0, hG, hW, fun G1 D1 o9 => m_L_placeBy_x2 l hst Dg cI cL h na ta G D G1 D1 ob o9 t a2 ht e1 hG hW, fun th K => ⟨K, m_X3_placeBy_x2 l Dg cI mo th G D K t a2 ht e1 hG hW⟩⟩
  · skip
    exact ⟨1, G, D, 0, hG, hW, fun G1 D1 o9 => m_L_placeBy_x1 l hst Dg cI cL h na ta G D G1 D1 ob o9 a1 a2 e1 hG hW, fun th K => ⟨K, m_X3_placeBy_x1 l Dg cI mo th G D K a1 a2 e1 hG hW⟩⟩

set_option maxHeartbeats 4000000 in
theorem z_op_lostWith (l : Launch) (hst : l.stackTraces = false) (Dg : va_G) (cI cL : ClassId) (h : Nat) (na ta : Nat → Nat) (ob : Nat) (mo : Nat → Nat) (G : z_GG) (D : z_DD) (a1 : Int32) (a2 : Int32) (hG : z_WG G) (hW : z_WD G D) : ∃ (c9 : Int32) (G9 : z_GG) (D9 : z_DD) (v9 : Int32), z_WG G9 ∧ z_WD G9 D9 ∧ (∀ (G1 : z_GG) (D1 : z_DD) (o9 : Nat → Int64), z_ML l yL_lostWith wsL_lostWith 9 153 [.ref h, .int a1, .int a2, .ref ob] Dg cI cL (z_oW cI cL h na ta ob G D G1 D1 o9) (z_PW c9 (v9).toInt64 cI cL h na ta ob G9 D9)) ∧ (∀ (th : Int32) (K : Nat → Int32), ∃ K9 : Nat → Int32, z_Mw l yX3_lostWith wsX3_lostWith 5 115 [.ref (mo 0), .int a1, .int a2] Dg cI (z_mW cI mo th G D K) (some (.int (v9))) (z_mW cI mo c9 G9 D9 K9)) := by
  have htc : z_tc G ≤ 60 := hG.2.2.2.2.2.1
  have hbc : z_bc G ≤ 6 := hG.2.2.2.2.1
  rcases z_spl a1 10 (by decide) with ⟨m_, hm9, rfl⟩ | e1
  · skip
    rcases z_spl a2 3 (by decide) with ⟨o, ho, rfl⟩ | e1
    · skip
      exact ⟨0, G, D, z_ls G D m_ o, hG, hW, fun G1 D1 o9 => m_L_lostWith_ok l hst Dg cI cL h na ta G D G1 D1 ob o9 m_ o hm9 ho hG hW, fun th K => ⟨(z_nw D), m_X3_lostWith l Dg cI mo th G D K m_ o hm9 ho hG hW⟩⟩
    · skip
      rw [show nI 3 - 1 = 2 from by decide] at e1
      exact ⟨1, G, D, 0, hG, hW, fun G1 D1 o9 => m_L_lostWith_x2 l hst Dg cI cL h na ta G D G1 D1 ob o9 m_ a2 hm9 e1 hG hW, fun th K => ⟨K, m_X3_lostWith_x2 l Dg cI mo th G D K m_ a2 hm9 e1 hG hW⟩⟩
  · skip
    rw [show nI 10 - 1 = 9 from by decide] at e1
    exact ⟨1, G, D, 0, hG, hW, fun G1 D1 o9 => m_L_lostWith_x1 l hst Dg cI cL h na ta G D G1 D1 ob o9 a1 a2 e1 hG hW, fun th K => ⟨K, m_X3_lostWith_x1 l Dg cI mo th G D K a1 a2 e1 hG hW⟩⟩

set_option maxHeartbeats 4000000 in
theorem z_op_setShipping (l : Launch) (hst : l.stackTraces = false) (Dg : va_G) (cI cL : ClassId) (h : Nat) (na ta : Nat → Nat) (ob : Nat) (mo : Nat → Nat) (G : z_GG) (D : z_DD) (a1 : Int32) (a2 : Int32) (hG : z_WG G) (hW : z_WD G D) : ∃ (c9 : Int32) (G9 : z_GG) (D9 : z_DD) (v9 : Int32), z_WG G9 ∧ z_WD G9 D9 ∧ (∀ (G1 : z_GG) (D1 : z_DD) (o9 : Nat → Int64), z_ML l yL_setShipping wsL_setShipping 9 154 [.ref h, .int a1, .int a2, .ref ob] Dg cI cL (z_oW cI cL h na ta ob G D G1 D1 o9) (z_PW c9 (v9).toInt64 cI cL h na ta ob G9 D9)) ∧ (∀ (th : Int32) (K : Nat → Int32), ∃ K9 : Nat → Int32, z_Mw l yX3_setShipping wsX3_setShipping 2 42 [.ref (mo 0), .int a1, .int a2] Dg cI (z_mW cI mo th G D K) (some (.int (v9))) (z_mW cI mo c9 G9 D9 K9)) := by
  have htc : z_tc G ≤ 60 := hG.2.2.2.2.2.1
  have hbc : z_bc G ≤ 6 := hG.2.2.2.2.1
  rcases z_spl a1 10 (by decide) with ⟨m_, hm9, rfl⟩ | e1
  · skip
    rcases z_spl a2 3 (by decide) with ⟨o, ho, rfl⟩ | e1
    · skip
      exact ⟨0, (z_ship G m_ o), D, nI (z_sd G), (z_WG_ship hG (by omega) (by omega)), hW, fun G1 D1 o9 => m_L_setShipping_ok l hst Dg cI cL h na ta G D G1 D1 ob o9 m_ o hm9 ho hG hW, fun th K => ⟨K, m_X3_setShipping l Dg cI mo th G D K m_ o hm9 ho hG hW⟩⟩
    · skip
      rw [show nI 3 - 1 = 2 from by decide] at e1
      exact ⟨1, G, D, 0, hG, hW, fun G1 D1 o9 => m_L_setShipping_x2 l hst Dg cI cL h na ta G D G1 D1 ob o9 m_ a2 hm9 e1 hG hW, fun th K => ⟨K, m_X3_setShipping_x2 l Dg cI mo th G D K m_ a2 hm9 e1 hG hW⟩⟩
  · skip
    rw [show nI 10 - 1 = 9 from by decide] at e1
    exact ⟨1, G, D, 0, hG, hW, fun G1 D1 o9 => m_L_setShipping_x1 l hst Dg cI cL h na ta G D G1 D1 ob o9 a1 a2 e1 hG hW, fun th K => ⟨K, m_X3_setShipping_x1 l Dg cI mo th G D K a1 a2 e1 hG hW⟩⟩

set_option maxHeartbeats 4000000 in
theorem z_op_addBatch (l : Launch) (hst : l.stackTraces = false) (Dg : va_G) (cI cL : ClassId) (h : Nat) (na ta : Nat → Nat) (ob : Nat) (mo : Nat → Nat) (G : z_GG) (D : z_DD) (a1 : Int32) (a2 : Int32) (hG : z_WG G) (hW : z_WD G D) : ∃ (c9 : Int32) (G9 : z_GG) (D9 : z_DD) (v9 : Int32), z_WG G9 ∧ z_WD G9 D9 ∧ (∀ (G1 : z_GG) (D1 : z_DD) (o9 : Nat → Int64), z_ML l yL_addBatch wsL_addBatch 7 112 [.ref h, .int a1, .int a2, .ref ob] Dg cI cL (z_oW cI cL h na ta ob G D G1 D1 o9) (z_PW c9 (v9).toInt64 cI cL h na ta ob G9 D9)) ∧ (∀ (th : Int32) (K : Nat → Int32), ∃ K9 : Nat → Int32, z_Mw l yX3_addBatch wsX3_addBatch 1 22 [.ref (mo 0), .int a1, .int a2] Dg cI (z_mW cI mo th G D K) (some (.int (v9))) (z_mW cI mo c9 G9 D9 K9)) := by
  have htc : z_tc G ≤ 60 := hG.2.2.2.2.2.1
  have hbc : z_bc G ≤ 6 := hG.2.2.2.2.1
  by_cases e1 : 1 ≤ a1 ∧ a1 ≤ 99
  · obtain ⟨hv1, hv2⟩ := e1
    by_cases e1 : 0 ≤ a2 ∧ a2 ≤ 5
    · obtain ⟨hk1, hk2⟩ := e1
      by_cases hb6 : z_bc G = 6
      · skip
        exact ⟨2, G, D, 0, hG, hW, fun G1 D1 o9 => m_L_addBatch_x3 l hst Dg cI cL h na ta G D G1 D1 ob o9 a1 a2 hv1 hv2 hk1 hk2 hb6 hG hW, fun th K => ⟨K, m_X3_addBatch_x3 l Dg cI mo th G D K a1 a2 hv1 hv2 hk1 hk2 hb6 hG hW⟩⟩
      · have hb6 : z_bc G < 6 := by omega
        exact ⟨0, (z_addb G a1 a2), D, nI (z_bc G), (z_WG_add hG hb6 hk1 hk2), hW, fun G1 D1 o9 => m_L_addBatch_ok l hst Dg cI cL h na ta G D G1 D1 ob o9 a1 a2 hv1 hv2 hk1 hk2 hb6 hG hW, fun th K => ⟨K, m_X3_addBatch l Dg cI mo th G D K a1 a2 hv1 hv2 hk1 hk2 hb6 hG hW⟩⟩
    · skip
      exact ⟨1, G, D, 0, hG, hW, fun G1 D1 o9 => m_L_addBatch_x2 l hst Dg cI cL h na ta G D G1 D1 ob o9 a1 a2 hv1 hv2 e1 hG hW, fun th K => ⟨K, m_X3_addBatch_x2 l Dg cI mo th G D K a1 a2 hv1 hv2 e1 hG hW⟩⟩
  · skip
    exact ⟨1, G, D, 0, hG, hW, fun G1 D1 o9 => m_L_addBatch_x1 l hst Dg cI cL h na ta G D G1 D1 ob o9 a1 a2 e1 hG hW, fun th K => ⟨K, m_X3_addBatch_x1 l Dg cI mo th G D K a1 a2 e1 hG hW⟩⟩

set_option maxHeartbeats 4000000 in
theorem z_op_seal (l : Launch) (hst : l.stackTraces = false) (Dg : va_G) (cI cL : ClassId) (h : Nat) (na ta : Nat → Nat) (ob : Nat) (mo : Nat → Nat) (G : z_GG) (D : z_DD) (a1 : Int32) (a2 : Int32) (a3 : Int32) (hG : z_WG G) (hW : z_WD G D) : ∃ (c9 : Int32) (G9 : z_GG) (D9 : z_DD) (v9 : Int32), z_WG G9 ∧ z_WD G9 D9 ∧ (∀ (G1 : z_GG) (D1 : z_DD) (o9 : Nat → Int64), z_ML l yL_seal wsL_seal 8 134 [.ref h, .int a1, .int a2, .int a3, .ref ob] Dg cI cL (z_oW cI cL h na ta ob G D G1 D1 o9) (z_PW c9 (v9).toInt64 cI cL h na ta ob G9 D9)) ∧ (∀ (th : Int32) (K : Nat → Int32), ∃ K9 : Nat → Int32, z_Mw l yX3_seal wsX3_seal 2 43 [.ref (mo 0), .int a1, .int a2, .int a3] Dg cI (z_mW cI mo th G D K) (some (.int (v9))) (z_mW cI mo c9 G9 D9 K9)) := by
  have htc : z_tc G ≤ 60 := hG.2.2.2.2.2.1
  have hbc : z_bc G ≤ 6 := hG.2.2.2.2.1
  rcases z_spl a1 (z_bc G) (by omega) with ⟨b_, hbb, rfl⟩ | e1
  · skip
    rcases z_spl a2 4 (by decide) with ⟨s_, hs4, rfl⟩ | e1
    · skip
      rcases z_spl1 a3 1 20 (by decide) (by decide) with ⟨k_, hk1, hk2, rfl⟩ | e1
      · by_cases hk60 : 60 < z_tc G + k_
        · skip
          exact ⟨3, G, D, 0, hG, hW, fun G1 D1 o9 => m_L_seal_x4 l hst Dg cI cL h na ta G D G1 D1 ob o9 b_ s_ k_ hbb hs4 hk1 hk2 hk60 hG hW, fun th K => ⟨K, m_X3_seal_x4 l Dg cI mo th G D K b_ s_ k_ hbb hs4 hk1 hk2 hk60 hG hW⟩⟩
        · have hk60 : z_tc G + k_ ≤ 60 := by omega
          cases hrc : z_rc D b_ with
          | true =>
            exact ⟨3, G, D, 0, hG, hW, fun G1 D1 o9 => m_L_seal_x5 l hst Dg cI cL h na ta G D G1 D1 ob o9 b_ s_ k_ hbb hs4 hk1 hk2 hk60 hrc hG hW, fun th K => ⟨K, m_X3_seal_x5 l Dg cI mo th G D K b_ s_ k_ hbb hs4 hk1 hk2 hk60 hrc hG hW⟩⟩
          | false =>
            exact ⟨0, (z_gn G b_ s_ k_), (z_dn G D b_ s_ k_), nI (z_tc G), (z_WG_gn hG (by omega) hs4 _ hk60), (z_WD_dn hW _), fun G1 D1 o9 => m_L_seal_ok l hst Dg cI cL h na ta G D G1 D1 ob o9 b_ s_ k_ hbb hs4 hk1 hk2 hk60 hrc hG hW, fun th K => ⟨K, m_X3_seal l Dg cI mo th G D K b_ s_ k_ hbb hs4 hk1 hk2 hk60 hrc hG hW⟩⟩
      · skip
        rw [show nI 1 = 1 from by decide, show nI 20 = 20 from by decide] at e1
        exact ⟨2, G, D, 0, hG, hW, fun G1 D1 o9 => m_L_seal_x3 l hst Dg cI cL h na ta G D G1 D1 ob o9 b_ s_ a3 hbb hs4 e1 hG hW, fun th K => ⟨K, m_X3_seal_x3 l Dg cI mo th G D K b_ s_ a3 hbb hs4 e1 hG hW⟩⟩
    · skip
      rw [show nI 4 - 1 = 3 from by decide] at e1
      exact ⟨1, G, D, 0, hG, hW, fun G1 D1 o9 => m_L_seal_x2 l hst Dg cI cL h na ta G D G1 D1 ob o9 b_ a2 a3 hbb e1 hG hW, fun th K => ⟨K, m_X3_seal_x2 l Dg cI mo th G D K b_ a2 a3 hbb e1 hG hW⟩⟩
  · skip
    exact ⟨1, G, D, 0, hG, hW, fun G1 D1 o9 => m_L_seal_x1 l hst Dg cI cL h na ta G D G1 D1 ob o9 a1 a2 a3 e1 hG hW, fun th K => ⟨K, m_X3_seal_x1 l Dg cI mo th G D K a1 a2 a3 e1 hG hW⟩⟩

set_option maxHeartbeats 4000000 in
theorem z_op_move (l : Launch) (hst : l.stackTraces = false) (Dg : va_G) (cI cL : ClassId) (h : Nat) (na ta : Nat → Nat) (ob : Nat) (mo : Nat → Nat) (G : z_GG) (D : z_DD) (a1 : Int32) (a2 : Int32) (hG : z_WG G) (hW : z_WD G D) : ∃ (c9 : Int32) (G9 : z_GG) (D9 : z_DD) (v9 : Int32), z_WG G9 ∧ z_WD G9 D9 ∧ (∀ (G1 : z_GG) (D1 : z_DD) (o9 : Nat → Int64), z_ML l yL_move wsL_move 8 134 [.ref h, .int a1, .int a2, .ref ob] Dg cI cL (z_oW cI cL h na ta ob G D G1 D1 o9) (z_PW c9 (v9).toInt64 cI cL h na ta ob G9 D9)) ∧ (∀ (th : Int32) (K : Nat → Int32), ∃ K9 : Nat → Int32, z_Mw l yX3_move wsX3_move 2 43 [.ref (mo 0), .int a1, .int a2] Dg cI (z_mW cI mo th G D K) (some (.int (v9))) (z_mW cI mo c9 G9 D9 K9)) := by
  have htc : z_tc G ≤ 60 := hG.2.2.2.2.2.1
  have hbc : z_bc G ≤ 6 := hG.2.2.2.2.1
  rcases z_spl a1 (z_tc G) (by omega) with ⟨t, ht, rfl⟩ | e1
  · skip
    rcases z_spl a2 4 (by decide) with ⟨s_, hs4, rfl⟩ | e1
    · by_cases hp1 : z_pl D t = 1
      · skip
        exact ⟨0, (z_setsh G t s_), D, nI (z_sh G t), (z_WG_setsh hG hs4), hW, fun G1 D1 o9 => m_L_move_ok l hst Dg cI cL h na ta G D G1 D1 ob o9 t s_ ht hs4 hp1 hG hW, fun th K => ⟨K, m_X3_move l Dg cI mo th G D K t s_ ht hs4 hp1 hG hW⟩⟩
      · skip
        exact ⟨2, G, D, 0, hG, hW, fun G1 D1 o9 => m_L_move_x3 l hst Dg cI cL h na ta G D G1 D1 ob o9 t s_ ht hs4 hp1 hG hW, fun th K => ⟨K, m_X3_move_x3 l Dg cI mo th G D K t s_ ht hs4 hp1 hG hW⟩⟩
    · skip
      rw [show nI 4 - 1 = 3 from by decide] at e1
      exact ⟨1, G, D, 0, hG, hW, fun G1 D1 o9 => m_L_move_x2 l hst Dg cI cL h na ta G D G1 D1 ob o9 t a2 ht e1 hG hW, fun th K => ⟨K, m_X3_move_x2 l Dg cI mo th G D K t a2 ht e1 hG hW⟩⟩
  · skip
    exact ⟨1, G, D, 0, hG, hW, fun G1 D1 o9 => m_L_move_x1 l hst Dg cI cL h na ta G D G1 D1 ob o9 a1 a2 e1 hG hW, fun th K => ⟨K, m_X3_move_x1 l Dg cI mo th G D K a1 a2 e1 hG hW⟩⟩

set_option maxHeartbeats 4000000 in
theorem z_op_setWarm (l : Launch) (hst : l.stackTraces = false) (Dg : va_G) (cI cL : ClassId) (h : Nat) (na ta : Nat → Nat) (ob : Nat) (mo : Nat → Nat) (G : z_GG) (D : z_DD) (a1 : Int32) (a2 : Int32) (hG : z_WG G) (hW : z_WD G D) : ∃ (c9 : Int32) (G9 : z_GG) (D9 : z_DD) (v9 : Int32), z_WG G9 ∧ z_WD G9 D9 ∧ (∀ (G1 : z_GG) (D1 : z_DD) (o9 : Nat → Int64), z_ML l yL_setWarm wsL_setWarm 8 133 [.ref h, .int a1, .int a2, .ref ob] Dg cI cL (z_oW cI cL h na ta ob G D G1 D1 o9) (z_PW c9 (v9).toInt64 cI cL h na ta ob G9 D9)) ∧ (∀ (th : Int32) (K : Nat → Int32), ∃ K9 : Nat → Int32, z_Mw l yX3_setWarm wsX3_setWarm 2 42 [.ref (mo 0), .int a1, .int a2] Dg cI (z_mW cI mo th G D K) (some (.int (v9))) (z_mW cI mo c9 G9 D9 K9)) := by
  have htc : z_tc G ≤ 60 := hG.2.2.2.2.2.1
  have hbc : z_bc G ≤ 6 := hG.2.2.2.2.1
  rcases z_spl a1 4 (by decide) with ⟨s_, hs4, rfl⟩ | e1
  · by_cases e1 : 0 ≤ a2 ∧ a2 ≤ 3
    · obtain ⟨hw1, hw2⟩ := e1
      exact ⟨0, (z_setwm G s_ a2), D, z_wm G s_, (z_WG_setwm hG hw1 hw2), hW, fun G1 D1 o9 => m_L_setWarm_ok l hst Dg cI cL h na ta G D G1 D1 ob o9 s_ a2 hs4 hw1 hw2 hG hW, fun th K => ⟨K, m_X3_setWarm l Dg cI mo th G D K s_ a2 hs4 hw1 hw2 hG hW⟩⟩
    · skip
      exact ⟨2, G, D, 0, hG, hW, fun G1 D1 o9 => m_L_setWarm_x2 l hst Dg cI cL h na ta G D G1 D1 ob o9 s_ a2 hs4 e1 hG hW, fun th K => ⟨K, m_X3_setWarm_x2 l Dg cI mo th G D K s_ a2 hs4 e1 hG hW⟩⟩
  · skip
    rw [show nI 4 - 1 = 3 from by decide] at e1
    exact ⟨1, G, D, 0, hG, hW, fun G1 D1 o9 => m_L_setWarm_x1 l hst Dg cI cL h na ta G D G1 D1 ob o9 a1 a2 e1 hG hW, fun th K => ⟨K, m_X3_setWarm_x1 l Dg cI mo th G D K a1 a2 e1 hG hW⟩⟩

set_option maxHeartbeats 4000000 in
theorem z_op_recall (l : Launch) (hst : l.stackTraces = false) (Dg : va_G) (cI cL : ClassId) (h : Nat) (na ta : Nat → Nat) (ob : Nat) (mo : Nat → Nat) (G : z_GG) (D : z_DD) (a1 : Int32) (hG : z_WG G) (hW : z_WD G D) : ∃ (c9 : Int32) (G9 : z_GG) (D9 : z_DD) (v9 : Int32), z_WG G9 ∧ z_WD G9 D9 ∧ (∀ (G1 : z_GG) (D1 : z_DD) (o9 : Nat → Int64), z_ML l yL_recall wsL_recall 8 132 [.ref h, .int a1, .ref ob] Dg cI cL (z_oW cI cL h na ta ob G D G1 D1 o9) (z_PW c9 (v9).toInt64 cI cL h na ta ob G9 D9)) ∧ (∀ (th : Int32) (K : Nat → Int32), ∃ K9 : Nat → Int32, z_Mw l yX3_recall wsX3_recall 2 44 [.ref (mo 0), .int a1] Dg cI (z_mW cI mo th G D K) (some (.int (v9))) (z_mW cI mo c9 G9 D9 K9)) := by
  have htc : z_tc G ≤ 60 := hG.2.2.2.2.2.1
  have hbc : z_bc G ≤ 6 := hG.2.2.2.2.1
  rcases z_spl a1 (z_bc G) (by omega) with ⟨b_, hbb, rfl⟩ | e1
  · cases hrc : z_rc D b_ with
    | true =>
      exact ⟨2, G, D, 0, hG, hW, fun G1 D1 o9 => m_L_recall_x2 l hst Dg cI cL h na ta G D G1 D1 ob o9 b_ hbb hrc hG hW, fun th K => ⟨K, m_X3_recall_x2 l Dg cI mo th G D K b_ hbb hrc hG hW⟩⟩
    | false =>
      exact ⟨0, G, (z_rb G b_ D).2, nI (z_rb G b_ D).1, hG, (z_WD_rb _ hW), fun G1 D1 o9 => m_L_recall_ok l hst Dg cI cL h na ta G D G1 D1 ob o9 b_ hbb hrc hG hW, fun th K => ⟨K, m_X3_recall l Dg cI mo th G D K b_ hbb hrc hG hW⟩⟩
  · skip
    exact ⟨1, G, D, 0, hG, hW, fun G1 D1 o9 => m_L_recall_x1 l hst Dg cI cL h na ta G D G1 D1 ob o9 a1 e1 hG hW, fun th K => ⟨K, m_X3_recall_x1 l Dg cI mo th G D K a1 e1 hG hW⟩⟩

set_option maxHeartbeats 4000000 in
theorem z_op_pass (l : Launch) (hst : l.stackTraces = false) (Dg : va_G) (cI cL : ClassId) (h : Nat) (na ta : Nat → Nat) (ob : Nat) (mo : Nat → Nat) (G : z_GG) (D : z_DD) (a1 : Int32) (hG : z_WG G) (hW : z_WD G D) : ∃ (c9 : Int32) (G9 : z_GG) (D9 : z_DD) (v9 : Int32), z_WG G9 ∧ z_WD G9 D9 ∧ (∀ (G1 : z_GG) (D1 : z_DD) (o9 : Nat → Int64), z_ML l yL_pass wsL_pass 7 113 [.ref h, .int a1, .ref ob] Dg cI cL (z_oW cI cL h na ta ob G D G1 D1 o9) (z_PW c9 (v9).toInt64 cI cL h na ta ob G9 D9)) ∧ (∀ (th : Int32) (K : Nat → Int32), ∃ K9 : Nat → Int32, z_Mw l yX3_pass wsX3_pass 4 89 [.ref (mo 0), .int a1] Dg cI (z_mW cI mo th G D K) (some (.int (v9))) (z_mW cI mo c9 G9 D9 K9)) := by
  have htc : z_tc G ≤ 60 := hG.2.2.2.2.2.1
  have hbc : z_bc G ≤ 6 := hG.2.2.2.2.1
  rcases z_spl1 a1 1 60 (by decide) (by decide) with ⟨k_, hk1, hk2, rfl⟩ | e1
  · skip
    exact ⟨0, G, (z_days G D k_), nI (z_cn G (z_days G D k_) 2) - nI (z_cn G D 2), hG, (z_WD_days hW _), fun G1 D1 o9 => m_L_pass_ok l hst Dg cI cL h na ta G D G1 D1 ob o9 k_ hk1 hk2 hG hW, fun th K => ⟨K, m_X3_pass l Dg cI mo th G D K k_ hk1 hk2 hG hW⟩⟩
  · skip
    rw [show nI 1 = 1 from by decide, show nI 60 = 60 from by decide] at e1
    exact ⟨1, G, D, 0, hG, hW, fun G1 D1 o9 => m_L_pass_x1 l hst Dg cI cL h na ta G D G1 D1 ob o9 a1 e1 hG hW, fun th K => ⟨K, m_X3_pass_x1 l Dg cI mo th G D K a1 e1 hG hW⟩⟩
