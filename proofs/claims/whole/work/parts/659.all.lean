/-! PURE HALF: every call, over the whole relation -/
theorem t_person : lws_person RelF := fun S X K h => let ⟨r, X', K', e0, e1, z⟩ := s_person RLx_loc S X K h.1
  ⟨r, X', K', e0, e1, z, h.2⟩
theorem t_put : lws_put RelF := fun S X K h a1 a2 a3 a4 => let ⟨r, X', K', e0, e1, z⟩ := s_put RLx_loc S X K h.1 a1 a2 a3 a4
  ⟨r, X', K', e0, e1, z, h.2⟩
theorem t_hour : lws_hour RelF := fun S X K h a1 a2 a3 => let ⟨r, X', K', e0, e1, z⟩ := s_hour RLx_loc RLx_rul S X K h.1 a1 a2 a3
  ⟨r, X', K', e0, e1, z, h.2⟩
theorem t_give : lws_give RelF := fun S X K h a1 a2 => let ⟨r, X', K', e0, e1, z⟩ := s_give RLx_loc S X K h.1 a1 a2
  ⟨r, X', K', e0, e1, z, h.2⟩
theorem t_of : lws_of RelF := fun S X K h a1 a2 => let ⟨r, K', e0, e1, z⟩ := s_of RLx_loc S X K h.1 a1 a2
  ⟨r, K', e0, e1, z, h.2⟩
theorem t_needs : lws_needs RelF := fun S X K h a1 a2 => let ⟨r, X', K', e0, e1, z⟩ := s_needs RLx_loc S X K h.1 a1 a2
  ⟨r, X', K', e0, e1, z, h.2⟩
theorem t_terms : lws_terms RelF := fun S X K h a1 a2 => let ⟨r, X', K', e0, e1, z⟩ := s_terms RLx_loc S X K h.1 a1 a2
  ⟨r, X', K', e0, e1, z, h.2⟩
theorem t_feed : lws_feed RelF := fun S X K h a1 a2 a3 a4 a5 => let ⟨r, X', K', e0, e1, z⟩ := s_feed RLx_loc S X K h.1 a1 a2 a3 a4 a5
  ⟨r, X', K', e0, e1, z, h.2⟩
theorem t_end : lws_end RelF := fun S X K h a1 => let ⟨r, X', K', e0, e1, z⟩ := s_end RLx_loc S X K h.1 a1
  ⟨r, X', K', e0, e1, z, h.2⟩
theorem t_row : lws_row RelF := fun S X K h a1 => let ⟨r, X', K', e0, e1, z⟩ := s_row RLx_loc S X K h.1 a1
  ⟨r, X', K', e0, e1, z, h.2⟩
theorem t_rain : lws_rain RelF := fun S X K h => let ⟨r, e0, e1, z⟩ := s_rain (RL := RLx) S X K h.1
  ⟨r, e0, e1, z, h.2⟩
theorem t_fault : lws_fault RelF := fun S X K h => let ⟨r, e0, e1, z⟩ := s_fault (RL := RLx) S X K h.1
  ⟨r, e0, e1, z, h.2⟩
theorem t_stopped : lws_stopped RelF := fun S X K h => let ⟨r, e0, e1, z⟩ := s_stopped (RL := RLx) S X K h.1
  ⟨r, e0, e1, z, h.2⟩
theorem t_force : lws_force RelF := fun S X K h a1 => let ⟨r, X', K', e0, e1, z⟩ := s_force RLx_loc S X K h.1 a1
  ⟨r, X', K', e0, e1, z, h.2⟩
theorem t_pawn : lws_pawn RelF := fun S X K h a1 a2 => let ⟨r, X', K', e0, e1, z⟩ := s_pawn RLx_loc RLx_rul S X K h.1 a1 a2
  ⟨r, X', K', e0, e1, z, h.2⟩
theorem t_redeem : lws_redeem RelF := fun S X K h a1 a2 => let ⟨r, X', K', e0, e1, z⟩ := s_redeem RLx_loc RLx_rul S X K h.1 a1 a2
  ⟨r, X', K', e0, e1, z, h.2⟩
theorem t_pass : lws_pass RelF := fun S X K h => let ⟨r, X', K', e0, e1, z⟩ := s_pass RLx_loc S X K h.1
  ⟨r, X', K', e0, e1, z, h.2⟩
theorem t_auction : lws_auction RelF := fun S X K h a1 a2 => let ⟨r, X', K', e0, e1, z⟩ := s_auction RLx_loc S X K h.1 a1 a2
  ⟨r, X', K', e0, e1, z, h.2⟩
theorem t_undo : lws_undo RelF := fun S X K h => let ⟨r, X', K', e0, e1, z⟩ := s_undo RLx_loc S X K h.1
  ⟨r, X', K', e0, e1, z, h.2⟩
theorem t_met : lws_met RelF := fun S X K h a1 a2 a3 => let ⟨r, K', e0, e1, z⟩ := s_met RLx_loc S X K h.1 a1 a2 a3
  ⟨r, K', e0, e1, z, h.2⟩
theorem t_learned : lws_learned RelF := fun S X K h a1 a2 => let ⟨r, K', e0, e1, z⟩ := s_learned RLx_loc S X K h.1 a1 a2
  ⟨r, K', e0, e1, z, h.2⟩
theorem t_deep : lws_deep RelF := fun S X K h a1 => let ⟨r, K', e0, e1, z⟩ := s_deep RLx_loc S X K h.1 a1
  ⟨r, K', e0, e1, z, h.2⟩
theorem t_lies : lws_lies RelF := fun S X K h a1 => let ⟨r, e0, e1, z⟩ := s_lies (RL := RLx) S X K h.1 a1
  ⟨r, e0, e1, z, h.2⟩
theorem t_forged : lws_forged RelF := fun S X K h a1 => let ⟨r, X', e0, e1, z⟩ := s_forged RLx_loc S X K h.1 a1
  ⟨r, X', e0, e1, z, h.2⟩
theorem t_stray : lws_stray RelF := fun S X K h a1 a2 => let ⟨r, e0, e1, z⟩ := s_stray (RL := RLx) S X K h.1 a1 a2
  ⟨r, e0, e1, z, h.2⟩
theorem t_raise : lws_raise RelF := fun S X K h a1 a2 a3 a4 => let ⟨r, X', K', e0, e1, z⟩ := s_raise RLx_loc RLx_rul S X K h.1 a1 a2 a3 a4
  ⟨r, X', K', e0, e1, z, h.2⟩
theorem t_cheapest : lws_cheapest RelF := fun S X K h a1 a2 => let ⟨r, X', K', e0, e1, z⟩ := s_cheapest RLx_loc RLx_rul S X K h.1 a1 a2
  ⟨r, X', K', e0, e1, z, h.2⟩
theorem t_bid : lws_bid RelF := fun S X K h a1 a2 a3 => let ⟨r, X', K', e0, e1, z⟩ := s_bid RLx_loc S X K h.1 a1 a2 a3
  ⟨r, X', K', e0, e1, z, h.2⟩
theorem t_sale : lws_sale RelF := fun S X K h a1 => let ⟨r, X', K', e0, e1, z⟩ := s_sale RLx_loc S X K h.1 a1
  ⟨r, X', K', e0, e1, z, h.2⟩
theorem t_lasting : lws_lasting RelF := fun S X K h a1 a2 a3 => let ⟨r, X', K', e0, e1, z⟩ := s_lasting RLx_loc S X K h.1 a1 a2 a3
  ⟨r, X', K', e0, e1, z, h.2⟩
theorem t_years : lws_years RelF := fun S X K h a1 a2 => let ⟨r, X', K', e0, e1, z⟩ := s_years RLx_loc RLx_rul S X K h.1 a1 a2
  ⟨r, X', K', e0, e1, z, h.2⟩
theorem t_drawn : lws_drawn RelF := fun S X K h a1 a2 => let ⟨r, e0, e1, z⟩ := s_drawn (RL := RLx) S X K h.1 a1 a2
  ⟨r, e0, e1, z, h.2⟩
theorem t_image : lws_image RelF := fun S X K h a1 => let ⟨r, X', K', e0, e1, z⟩ := s_image RLx_loc S X K h.1 a1
  ⟨r, X', K', e0, e1, z, h.2⟩
theorem t_back : lws_back RelF := fun S X K h a1 => let ⟨r, X', K', e0, e1, z⟩ := s_back RLx_loc S X K h.1 a1
  ⟨r, X', K', e0, e1, z, h.2⟩
theorem t_count : lws_count RelF := fun S X K h a1 => let ⟨r, e0, e1, z⟩ := s_count (RL := RLx) S X K h.1 a1
  ⟨r, e0, e1, z, h.2⟩
theorem t_status : lws_status RelF := fun S X K h => let ⟨r, e0, e1, z⟩ := s_status (RL := RLx) S X K h.1
  ⟨r, e0, e1, z, h.2⟩
