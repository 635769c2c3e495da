theorem zz_9q_even : True := trivial
