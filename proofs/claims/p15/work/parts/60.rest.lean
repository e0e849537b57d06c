/-! every call keeps what the law's comparison rests on -/
def RIp (i : Nat) (t u : Mem) : Prop := OKX t ∧ REL t u ∧ (∃ d, d ≤ 4 * i ∧ ASK d 36 t) ∧ MI i u
theorem RI_0 : RIp 0 t0 (u0j 36) := ⟨OKX_0, REL_0, ⟨0, by omega, ASK_0⟩, MI_0⟩
theorem RI_steps {L : Nat} (hL : L ≤ 2560) : STEPS RIp L := by
  refine ⟨fun i t u h hi => ⟨h.1, MI_MOK (by omega) h.2.2.2⟩, ?_, ?_, ?_, ?_, ?_, ?_, ?_, ?_, ?_, ?_, ?_, ?_, ?_, ?_, ?_, ?_⟩
  · intro i t u ⟨ho, hR, ⟨d, hd, hA⟩, hM⟩ hi x a w n r t2 r2 u2 h1 h2
    have A := A_ask hR h1 h2
    have K := K_ask ho hA h1
    exact ⟨K.1, A.1, ⟨d, by omega, K.2⟩, N_ask hM h2⟩
  · intro i t u ⟨ho, hR, ⟨d, hd, hA⟩, hM⟩ hi k0 n r t2 r2 u2 h1 h2
    have A := A_confirm hR h1 h2
    have K := K_confirm ho hA h1
    exact ⟨K.1, A.1, ⟨d, by omega, K.2⟩, N_confirm hM h2⟩
  · intro i t u ⟨ho, hR, ⟨d, hd, hA⟩, hM⟩ hi x a n r t2 r2 u2 h1 h2
    have A := A_leave hR h1 h2
    have K := K_leave ho hA h1
    exact ⟨K.1, A.1, ⟨d, by omega, K.2⟩, N_leave hM h2⟩
  · intro i t u ⟨ho, hR, ⟨d, hd, hA⟩, hM⟩ hi x a w n r t2 r2 u2 h1 h2
    have A := A_way hR h1 h2
    have K := K_way ho hA h1
    exact ⟨K.1, A.1, ⟨d, by omega, K.2⟩, N_way hM h2⟩
  · intro i t u ⟨ho, hR, ⟨d, hd, hA⟩, hM⟩ hi x a v hz n r t2 r2 u2 h1 h2
    have A := A_moderator hR h1 h2
    have K := K_moderator ho hA hz h1
    exact ⟨K.1, A.1, ⟨d, by omega, K.2⟩, N_moderator hM hz h2⟩
  · intro i t u ⟨ho, hR, ⟨d, hd, hA⟩, hM⟩ hi x a v hz n r t2 r2 u2 h1 h2
    have A := A_ban hR h1 h2
    have K := K_ban ho hA hz h1
    exact ⟨K.1, A.1, ⟨d, by omega, K.2⟩, N_ban hM hz h2⟩
  · intro i t u ⟨ho, hR, ⟨d, hd, hA⟩, hM⟩ hi x w v n r t2 r2 u2 h1 h2
    have A := A_setting hR h1 h2
    have K := K_setting ho hA h1
    exact ⟨K.1, A.1, ⟨d, by omega, K.2⟩, N_setting hM h2⟩
  · intro i t u ⟨ho, hR, ⟨d, hd, hA⟩, hM⟩ hi x a z w n r t2 r2 u2 h1 h2
    have A := A_post ho hR h1 h2
    have K := K_post ho hA h1
    exact ⟨K.1, A.1, ⟨d, by omega, K.2⟩, N_post hM h2⟩
  · intro i t u ⟨ho, hR, ⟨d, hd, hA⟩, hM⟩ hi m0 p0 h0 n r t2 r2 u2 h1 h2
    have A := A_judge ho hR h1 h2
    have K := K_judge ho hA h1
    exact ⟨K.1, A.1, ⟨d, by omega, K.2⟩, N_judge hM h2⟩
  · intro i t u ⟨ho, hR, ⟨d, hd, hA⟩, hM⟩ hi x a h hz n r t2 r2 u2 h1 h2
    have A := A_bounce hR h1 h2
    have K := K_bounce ho hA h1
    exact ⟨K.1, A.1, ⟨d, by omega, K.2⟩, N_bounce hM h2⟩
  · intro i t u ⟨ho, hR, ⟨d, hd, hA⟩, hM⟩ hi x a n r t2 r2 u2 h1 h2
    have A := A_renew hR h1 h2
    have K := K_renew ho hA h1
    exact ⟨K.1, A.1, ⟨d, by omega, K.2⟩, N_renew hM h2⟩
  · intro i t u ⟨ho, hR, ⟨d, hd, hA⟩, hM⟩ hi d0 n r t2 r2 u2 h1 h2
    have A := A_tick (d := d) (by omega) hR hA h1 h2
    obtain ⟨⟨A1, d2, hd2, hA2⟩, A2⟩ := A
    exact ⟨K_tick ho h1, A1, ⟨d2, by omega, hA2⟩, N_tick hM h2⟩
  · intro i t u ⟨ho, hR, ⟨d, hd, hA⟩, hM⟩ hi x a w n r t2 r2 u2 h1 h2
    have A := A_told hR h1 h2
    exact ⟨by rw [K_told h1]; exact ho, A.1, ⟨d, by omega, by rw [K_told h1]; exact hA⟩, N_told hM h2⟩
  · intro i t u ⟨ho, hR, ⟨d, hd, hA⟩, hM⟩ hi x a n r t2 r2 u2 h1 h2
    have A := A_score hR h1 h2
    exact ⟨⟨by rw [K_score h1]; exact ho, A.1, ⟨d, by omega, by rw [K_score h1]; exact hA⟩, N_score hM h2⟩, A.2⟩
  · intro i t u ⟨ho, hR, ⟨d, hd, hA⟩, hM⟩ hi k w n r t2 r2 u2 h1 h2
    exact ⟨by rw [K_sent h1]; exact ho, A_sent hR h1 h2, ⟨d, by omega, by rw [K_sent h1]; exact hA⟩, N_sent hM h2⟩
  · intro i t u ⟨ho, hR, ⟨d, hd, hA⟩, hM⟩ hi w n r t2 r2 u2 h1 h2
    exact ⟨by rw [K_count h1]; exact ho, A_count hR h1 h2, ⟨d, by omega, by rw [K_count h1]; exact hA⟩, N_count hM h2⟩
