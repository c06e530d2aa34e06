theorem law_ok : lawOK Inv := by
  intro gE gJ gV aV gN aN gS gZ aZ dP gQ dO gM aM h
  obtain ⟨h1, h2, h3, h4, h5, h6⟩ := L_0 h
  exact ⟨L_fd h, h1, h2, h3, h4, h5, h6, L_req h, L_rn h, L_resp h, L_wri h, L_doc h, L_txt h, L_nam h, L_pla h⟩
theorem i_vc : Claimed_1_1 ∧ Claimed_1_2 := vc_of law_ok Inv_0
