theorem zz_9v_init : True := trivial
